/-! the methods of the class that throw -/
/-- NameNotes.named -/
def nxd_named : ab_CN := ([(2, 0, 0), (0, 1, 0), (0, 2, 0), (0, 3, 0), (0, 4, 0), (0, 5, 0)], [(0, 0), ((-2147483648), 2147483647), ((-2147483648), 2147483647), ((-2147483648), 2147483647), ((-2147483648), 2147483647), ((-2147483648), 2147483647)], [], [], [([(1, 6, 0)], [(0, 0), (0, 4), (0, 8), (1, 9), (0, 5), (0, 1), ((-9223372036854775808), 9223372036854775807), (0, 511)], [], [((73, 3), (7, 0))], [(73, 3), (74, 1000000), (75, 1000000), (76, 1000000)])])
def nxo_named : List ab_OU := [([], [(0, 0), ((-2147483648), 2147483647), ((-2147483648), 2147483647), ((-2147483648), 2147483647), ((-2147483648), 2147483647), ((-2147483648), 2147483647)], [], [], [])]
def nxe_named_0 : ab_ND := (20, ([(0, (2, 0, 0)), (1, (0, 1, 0)), (2, (0, 2, 0)), (3, (0, 3, 0)), (4, (0, 4, 0)), (5, (0, 5, 0))], [], [(0, 0), ((-2147483648), 2147483647), ((-2147483648), 2147483647), ((-2147483648), 2147483647), ((-2147483648), 2147483647), ((-2147483648), 2147483647)], [], [], []), ((0, [], []), (0, [], []), (0, [], [])))
def nxn_named : List ab_ND := [((0, (ab_en0 0 nxd_named.1, [], nxd_named.2.1, nxd_named.2.2.1, nxd_named.2.2.2.1, []), ((0, [], []), (0, [], []), (0, [], []))) : ab_ND)]
def nxk_named : ab_KS := [(55, 0, cd_157), (189, 2, cd_171), (190, 4, cd_341), (193, 0, cd_344)]
theorem nxc_named : nxn_named.all (ab_cn vwCl nn_T nn_C nn_sh nn_MT (nn_KI1.map (fun x => x.1)) (nn_KJ1.map (fun x => x.1)) (nn_PF1.map (fun x => x.1)) nn_kd (nn_PS1.map (fun x => x.1)) (nn_PM1.map (fun x => x.1)) nxk_named 5 0 nn_dt188 6 nxd_named.2.1.length nxd_named.2.2.2.2 2 [] [20] [] [nxe_named_0] nxn_named 24) = true := by decide +kernel
set_option maxHeartbeats 4000000 in
theorem nxt_named (l : Launch) (htr : l.stackTraces = false) (cy : Nat → ClassId) (ad wr cr : Nat → Nat) (D : va_G) (hinj : nn_inj ad) : nx_H l cy ad wr cr D (188, 5, nxd_named, nxo_named) := by
  refine nx_holdW (mr := (⟨"NameNotes", "named", "(IIIII)J"⟩, prog_1_method_15_code, 6, (Option.some Jvm.ClassFile.FieldType.long), 5, true, 2)) (dt := nn_dt188) (KS := nxk_named) htr hinj rfl rfl (by decide +kernel) nn_KI1_ok nn_KJ1_ok nn_PF1_ok nn_PS1_ok nn_PM1_ok (List.forall_mem_cons.mpr ⟨ct_157 l cy ad wr cr D hinj, List.forall_mem_cons.mpr ⟨ct_171 l cy ad wr cr D hinj, List.forall_mem_cons.mpr ⟨ct_341 l cy ad wr cr D hinj, List.forall_mem_cons.mpr ⟨ct_344 l cy ad wr cr D hinj, fun _ h => absurd h List.not_mem_nil⟩⟩⟩⟩) ?_
  intro p e s m below meth c R Q ρ σ hE hK hsy hP hRT hTH
  refine ab_entry (lev := 5) (sp := []) (HD := [20]) (HN := []) (EX := [nxe_named_0]) (NS := nxn_named) (fuel := 24) (mu := ((0, [], []), (0, [], []), (0, [], []))) hE (by decide +kernel) hK hsy hP List.mem_cons_self hRT ?_ (fun nd hnd => List.all_eq_true.mp nxc_named nd hnd)
  intro nd hnd ρ2 σ2 H locs ls st hG
  rcases List.mem_cons.mp hnd with rfl | hnd
  · exact hTH 20 _ ρ2 σ2 H locs ls st 213 "no such ones" 5 (by decide +kernel) rfl (by decide +kernel) (show decode prog_1_method_15_code 20 = .ok (.new 211, 3) by decide +kernel) (show decode prog_1_method_15_code 23 = .ok (.dup, 1) by decide +kernel) (Or.inl ⟨(show decode prog_1_method_15_code 24 = .ok (.ldc 213, 2) by decide +kernel), (show decode prog_1_method_15_code 26 = .ok (.invokespecial 215, 3) by decide +kernel), (show decode prog_1_method_15_code 29 = .ok (.athrow, 1) by decide +kernel)⟩) hG
  exact absurd hnd List.not_mem_nil
/-- NameNotes.odds -/
def nxd_odds : ab_CN := ([(2, 0, 0), (0, 1, 0), (0, 2, 0), (0, 3, 0), (0, 4, 0)], [(0, 0), ((-2147483648), 2147483647), ((-2147483648), 2147483647), ((-2147483648), 2147483647), ((-2147483648), 2147483647)], [], [], [([(1, 5, 0)], [(0, 0), (0, 4), (1, 9), (0, 5), (0, 1), ((-9223372036854775808), 9223372036854775807), (0, 511)], [], [((73, 3), (6, 0))], [(73, 3), (74, 1000000), (75, 1000000)])])
def nxo_odds : List ab_OU := [([], [(0, 0), ((-2147483648), 2147483647), ((-2147483648), 2147483647), ((-2147483648), 2147483647), ((-2147483648), 2147483647)], [], [], [])]
def nxe_odds_0 : ab_ND := (37, ([(0, (2, 0, 0)), (1, (0, 1, 0)), (2, (0, 2, 0)), (3, (0, 3, 0)), (4, (0, 4, 0))], [], [(0, 0), ((-2147483648), 2147483647), ((-2147483648), 2147483647), ((-2147483648), 2147483647), ((-2147483648), 2147483647), (0, 5)], [], [((3, 13), (5, 0))], []), ((0, [], []), (0, [], []), (0, [], [])))
def nxn_odds : List ab_ND := [((0, (ab_en0 0 nxd_odds.1, [], nxd_odds.2.1, nxd_odds.2.2.1, nxd_odds.2.2.2.1, []), ((0, [], []), (0, [], []), (0, [], []))) : ab_ND)]
def nxk_odds : ab_KS := [(63, 0, cd_21), (67, 0, cd_22), (64, 1, cd_26), (55, 0, cd_157), (71, 0, cd_166), (82, 4, cd_175), (193, 0, cd_344)]
theorem nxc_odds : nxn_odds.all (ab_cn vwCl nn_T nn_C nn_sh nn_MT (nn_KI1.map (fun x => x.1)) (nn_KJ1.map (fun x => x.1)) (nn_PF1.map (fun x => x.1)) nn_kd (nn_PS1.map (fun x => x.1)) (nn_PM1.map (fun x => x.1)) nxk_odds 5 0 nn_dt194 5 nxd_odds.2.1.length nxd_odds.2.2.2.2 2 [] [37] [] [nxe_odds_0] nxn_odds 32) = true := by decide +kernel
set_option maxHeartbeats 4000000 in
theorem nxt_odds (l : Launch) (htr : l.stackTraces = false) (cy : Nat → ClassId) (ad wr cr : Nat → Nat) (D : va_G) (hinj : nn_inj ad) : nx_H l cy ad wr cr D (194, 5, nxd_odds, nxo_odds) := by
  refine nx_holdW (mr := (⟨"NameNotes", "odds", "(IIII)J"⟩, prog_1_method_16_code, 5, (Option.some Jvm.ClassFile.FieldType.long), 4, true, 2)) (dt := nn_dt194) (KS := nxk_odds) htr hinj rfl rfl (by decide +kernel) nn_KI1_ok nn_KJ1_ok nn_PF1_ok nn_PS1_ok nn_PM1_ok (List.forall_mem_cons.mpr ⟨ct_21 l cy ad wr cr D hinj, List.forall_mem_cons.mpr ⟨ct_22 l cy ad wr cr D hinj, List.forall_mem_cons.mpr ⟨ct_26 l cy ad wr cr D hinj, List.forall_mem_cons.mpr ⟨ct_157 l cy ad wr cr D hinj, List.forall_mem_cons.mpr ⟨ct_166 l cy ad wr cr D hinj, List.forall_mem_cons.mpr ⟨ct_175 l cy ad wr cr D hinj, List.forall_mem_cons.mpr ⟨ct_344 l cy ad wr cr D hinj, fun _ h => absurd h List.not_mem_nil⟩⟩⟩⟩⟩⟩⟩) ?_
  intro p e s m below meth c R Q ρ σ hE hK hsy hP hRT hTH
  refine ab_entry (lev := 5) (sp := []) (HD := [37]) (HN := []) (EX := [nxe_odds_0]) (NS := nxn_odds) (fuel := 32) (mu := ((0, [], []), (0, [], []), (0, [], []))) hE (by decide +kernel) hK hsy hP List.mem_cons_self hRT ?_ (fun nd hnd => List.all_eq_true.mp nxc_odds nd hnd)
  intro nd hnd ρ2 σ2 H locs ls st hG
  rcases List.mem_cons.mp hnd with rfl | hnd
  · exact hTH 37 _ ρ2 σ2 H locs ls st 213 "no such ones" 5 (by decide +kernel) rfl (by decide +kernel) (show decode prog_1_method_16_code 37 = .ok (.new 211, 3) by decide +kernel) (show decode prog_1_method_16_code 40 = .ok (.dup, 1) by decide +kernel) (Or.inl ⟨(show decode prog_1_method_16_code 41 = .ok (.ldc 213, 2) by decide +kernel), (show decode prog_1_method_16_code 43 = .ok (.invokespecial 215, 3) by decide +kernel), (show decode prog_1_method_16_code 46 = .ok (.athrow, 1) by decide +kernel)⟩) hG
  exact absurd hnd List.not_mem_nil
/-- NameNotes.worth -/
def nxd_worth : ab_CN := ([(2, 0, 0), (0, 1, 0), (0, 2, 0), (0, 3, 0), (0, 4, 0), (0, 5, 0)], [(0, 0), ((-2147483648), 2147483647), ((-2147483648), 2147483647), ((-2147483648), 2147483647), ((-2147483648), 2147483647), ((-2147483648), 2147483647)], [], [], [([(1, 6, 0)], [(0, 0), (0, 4), (0, 4), (0, 9), (0, 5), (0, 1), ((-9223372036854775808), 9223372036854775807)], [], [], [(73, 3), (74, 1000000), (75, 1000000), (78, 1000000), (79, 1000000), (80, 1000000)])])
def nxo_worth : List ab_OU := [([], [(0, 0), ((-2147483648), 2147483647), ((-2147483648), 2147483647), ((-2147483648), 2147483647), ((-2147483648), 2147483647), ((-2147483648), 2147483647)], [], [], [])]
def nxe_worth_0 : ab_ND := (20, ([(0, (2, 0, 0)), (1, (0, 1, 0)), (2, (0, 2, 0)), (3, (0, 3, 0)), (4, (0, 4, 0)), (5, (0, 5, 0))], [], [(0, 0), ((-2147483648), 2147483647), ((-2147483648), 2147483647), ((-2147483648), 2147483647), ((-2147483648), 2147483647), ((-2147483648), 2147483647)], [], [], []), ((0, [], []), (0, [], []), (0, [], [])))
def nxn_worth : List ab_ND := [((0, (ab_en0 0 nxd_worth.1, [], nxd_worth.2.1, nxd_worth.2.2.1, nxd_worth.2.2.2.1, []), ((0, [], []), (0, [], []), (0, [], []))) : ab_ND)]
def nxk_worth : ab_KS := [(102, 1, cd_126), (55, 0, cd_157), (91, 1, cd_177), (92, 5, cd_180), (193, 0, cd_344)]
theorem nxc_worth : nxn_worth.all (ab_cn vwCl nn_T nn_C nn_sh nn_MT (nn_KI1.map (fun x => x.1)) (nn_KJ1.map (fun x => x.1)) (nn_PF1.map (fun x => x.1)) nn_kd (nn_PS1.map (fun x => x.1)) (nn_PM1.map (fun x => x.1)) nxk_worth 6 0 nn_dt195 6 nxd_worth.2.1.length nxd_worth.2.2.2.2 2 [] [20] [] [nxe_worth_0] nxn_worth 28) = true := by decide +kernel
set_option maxHeartbeats 4000000 in
theorem nxt_worth (l : Launch) (htr : l.stackTraces = false) (cy : Nat → ClassId) (ad wr cr : Nat → Nat) (D : va_G) (hinj : nn_inj ad) : nx_H l cy ad wr cr D (195, 6, nxd_worth, nxo_worth) := by
  refine nx_holdW (mr := (⟨"NameNotes", "worth", "(IIIII)J"⟩, prog_1_method_19_code, 6, (Option.some Jvm.ClassFile.FieldType.long), 5, true, 2)) (dt := nn_dt195) (KS := nxk_worth) htr hinj rfl rfl (by decide +kernel) nn_KI1_ok nn_KJ1_ok nn_PF1_ok nn_PS1_ok nn_PM1_ok (List.forall_mem_cons.mpr ⟨ct_126 l cy ad wr cr D hinj, List.forall_mem_cons.mpr ⟨ct_157 l cy ad wr cr D hinj, List.forall_mem_cons.mpr ⟨ct_177 l cy ad wr cr D hinj, List.forall_mem_cons.mpr ⟨ct_180 l cy ad wr cr D hinj, List.forall_mem_cons.mpr ⟨ct_344 l cy ad wr cr D hinj, fun _ h => absurd h List.not_mem_nil⟩⟩⟩⟩⟩) ?_
  intro p e s m below meth c R Q ρ σ hE hK hsy hP hRT hTH
  refine ab_entry (lev := 6) (sp := []) (HD := [20]) (HN := []) (EX := [nxe_worth_0]) (NS := nxn_worth) (fuel := 28) (mu := ((0, [], []), (0, [], []), (0, [], []))) hE (by decide +kernel) hK hsy hP List.mem_cons_self hRT ?_ (fun nd hnd => List.all_eq_true.mp nxc_worth nd hnd)
  intro nd hnd ρ2 σ2 H locs ls st hG
  rcases List.mem_cons.mp hnd with rfl | hnd
  · exact hTH 20 _ ρ2 σ2 H locs ls st 213 "no such ones" 5 (by decide +kernel) rfl (by decide +kernel) (show decode prog_1_method_19_code 20 = .ok (.new 211, 3) by decide +kernel) (show decode prog_1_method_19_code 23 = .ok (.dup, 1) by decide +kernel) (Or.inl ⟨(show decode prog_1_method_19_code 24 = .ok (.ldc 213, 2) by decide +kernel), (show decode prog_1_method_19_code 26 = .ok (.invokespecial 215, 3) by decide +kernel), (show decode prog_1_method_19_code 29 = .ok (.athrow, 1) by decide +kernel)⟩) hG
  exact absurd hnd List.not_mem_nil
/-- NameNotes.gains -/
def nxd_gains : ab_CN := ([(2, 0, 0), (0, 1, 0), (0, 2, 0), (0, 3, 0), (0, 4, 0), (0, 5, 0)], [(0, 0), ((-2147483648), 2147483647), ((-2147483648), 2147483647), ((-2147483648), 2147483647), ((-2147483648), 2147483647), ((-2147483648), 2147483647)], [], [], [([(1, 6, 0)], [(0, 0), (0, 4), (0, 4), (0, 9), (0, 5), (0, 1), ((-9223372036854775808), 9223372036854775807)], [], [], [(73, 3), (74, 1000000), (75, 1000000), (78, 1000000), (79, 1000000), (80, 1000000)])])
def nxo_gains : List ab_OU := [([], [(0, 0), ((-2147483648), 2147483647), ((-2147483648), 2147483647), ((-2147483648), 2147483647), ((-2147483648), 2147483647), ((-2147483648), 2147483647)], [], [], [])]
def nxe_gains_0 : ab_ND := (20, ([(0, (2, 0, 0)), (1, (0, 1, 0)), (2, (0, 2, 0)), (3, (0, 3, 0)), (4, (0, 4, 0)), (5, (0, 5, 0))], [], [(0, 0), ((-2147483648), 2147483647), ((-2147483648), 2147483647), ((-2147483648), 2147483647), ((-2147483648), 2147483647), ((-2147483648), 2147483647)], [], [], []), ((0, [], []), (0, [], []), (0, [], [])))
def nxn_gains : List ab_ND := [((0, (ab_en0 0 nxd_gains.1, [], nxd_gains.2.1, nxd_gains.2.2.1, nxd_gains.2.2.2.1, []), ((0, [], []), (0, [], []), (0, [], []))) : ab_ND)]
def nxk_gains : ab_KS := [(102, 1, cd_126), (55, 0, cd_157), (91, 1, cd_177), (98, 5, cd_182), (193, 0, cd_344)]
theorem nxc_gains : nxn_gains.all (ab_cn vwCl nn_T nn_C nn_sh nn_MT (nn_KI1.map (fun x => x.1)) (nn_KJ1.map (fun x => x.1)) (nn_PF1.map (fun x => x.1)) nn_kd (nn_PS1.map (fun x => x.1)) (nn_PM1.map (fun x => x.1)) nxk_gains 6 0 nn_dt196 6 nxd_gains.2.1.length nxd_gains.2.2.2.2 2 [] [20] [] [nxe_gains_0] nxn_gains 28) = true := by decide +kernel
set_option maxHeartbeats 4000000 in
theorem nxt_gains (l : Launch) (htr : l.stackTraces = false) (cy : Nat → ClassId) (ad wr cr : Nat → Nat) (D : va_G) (hinj : nn_inj ad) : nx_H l cy ad wr cr D (196, 6, nxd_gains, nxo_gains) := by
  refine nx_holdW (mr := (⟨"NameNotes", "gains", "(IIIII)J"⟩, prog_1_method_21_code, 6, (Option.some Jvm.ClassFile.FieldType.long), 5, true, 2)) (dt := nn_dt196) (KS := nxk_gains) htr hinj rfl rfl (by decide +kernel) nn_KI1_ok nn_KJ1_ok nn_PF1_ok nn_PS1_ok nn_PM1_ok (List.forall_mem_cons.mpr ⟨ct_126 l cy ad wr cr D hinj, List.forall_mem_cons.mpr ⟨ct_157 l cy ad wr cr D hinj, List.forall_mem_cons.mpr ⟨ct_177 l cy ad wr cr D hinj, List.forall_mem_cons.mpr ⟨ct_182 l cy ad wr cr D hinj, List.forall_mem_cons.mpr ⟨ct_344 l cy ad wr cr D hinj, fun _ h => absurd h List.not_mem_nil⟩⟩⟩⟩⟩) ?_
  intro p e s m below meth c R Q ρ σ hE hK hsy hP hRT hTH
  refine ab_entry (lev := 6) (sp := []) (HD := [20]) (HN := []) (EX := [nxe_gains_0]) (NS := nxn_gains) (fuel := 28) (mu := ((0, [], []), (0, [], []), (0, [], []))) hE (by decide +kernel) hK hsy hP List.mem_cons_self hRT ?_ (fun nd hnd => List.all_eq_true.mp nxc_gains nd hnd)
  intro nd hnd ρ2 σ2 H locs ls st hG
  rcases List.mem_cons.mp hnd with rfl | hnd
  · exact hTH 20 _ ρ2 σ2 H locs ls st 213 "no such ones" 5 (by decide +kernel) rfl (by decide +kernel) (show decode prog_1_method_21_code 20 = .ok (.new 211, 3) by decide +kernel) (show decode prog_1_method_21_code 23 = .ok (.dup, 1) by decide +kernel) (Or.inl ⟨(show decode prog_1_method_21_code 24 = .ok (.ldc 213, 2) by decide +kernel), (show decode prog_1_method_21_code 26 = .ok (.invokespecial 215, 3) by decide +kernel), (show decode prog_1_method_21_code 29 = .ok (.athrow, 1) by decide +kernel)⟩) hG
  exact absurd hnd List.not_mem_nil
/-- NameNotes.held -/
def nxd_held : ab_CN := ([(2, 0, 0), (0, 1, 0), (0, 2, 0), (0, 3, 0), (0, 4, 0), (0, 5, 0), (0, 6, 0)], [(0, 0), ((-2147483648), 2147483647), ((-2147483648), 2147483647), ((-2147483648), 2147483647), ((-2147483648), 2147483647), ((-2147483648), 2147483647), ((-2147483648), 2147483647)], [], [], [([(1, 7, 0)], [(0, 0), (0, 4), (0, 8), (1, 9), (0, 5), (0, 1), (0, 1), ((-9223372036854775808), 9223372036854775807), (0, 511)], [], [((73, 3), (8, 0))], [(73, 3), (74, 1000000), (75, 1000000), (76, 1000000)])])
def nxo_held : List ab_OU := [([], [(0, 0), ((-2147483648), 2147483647), ((-2147483648), 2147483647), ((-2147483648), 2147483647), ((-2147483648), 2147483647), ((-2147483648), 2147483647), ((-2147483648), 2147483647)], [], [], [(73, 3), (74, 1000000), (75, 1000000), (76, 1000000)])]
def nxe_held_0 : ab_ND := (28, ([(0, (2, 0, 0)), (1, (0, 1, 0)), (2, (0, 2, 0)), (3, (0, 3, 0)), (4, (0, 4, 0)), (5, (0, 5, 0)), (6, (0, 6, 0))], [], [(0, 0), ((-2147483648), 2147483647), ((-2147483648), 2147483647), ((-2147483648), 2147483647), ((-2147483648), 2147483647), ((-2147483648), 2147483647), ((-2147483648), 2147483647)], [], [], []), ((0, [], []), (0, [], []), (0, [], [])))
def nxe_held_1 : ab_ND := (68, ([(7, (1, 7, 0)), (0, (2, 0, 0)), (1, (0, 1, 0)), (2, (0, 2, 0)), (3, (0, 3, 0)), (4, (0, 4, 0)), (5, (0, 5, 0)), (6, (0, 6, 0))], [], [(0, 0), (0, 4), (0, 8), (1, 9), (0, 5), (0, 1), (0, 1), (0, 976299632280), (0, 511)], [], [((73, 3), (8, 0))], [(73, 3), (74, 1000000), (75, 1000000), (76, 1000000)]), ((0, [], []), (0, [], []), (0, [], [])))
def nxn_held : List ab_ND := [((0, (ab_en0 0 nxd_held.1, [], nxd_held.2.1, nxd_held.2.2.1, nxd_held.2.2.2.1, []), ((0, [], []), (0, [], []), (0, [], []))) : ab_ND)]
def nxk_held : ab_KS := [(68, 1, cd_34), (55, 0, cd_157), (189, 2, cd_171), (190, 4, cd_341), (193, 0, cd_344)]
theorem nxc_held : nxn_held.all (ab_cn vwCl nn_T nn_C nn_sh nn_MT (nn_KI1.map (fun x => x.1)) (nn_KJ1.map (fun x => x.1)) (nn_PF1.map (fun x => x.1)) nn_kd (nn_PS1.map (fun x => x.1)) (nn_PM1.map (fun x => x.1)) nxk_held 5 0 nn_dt197 11 nxd_held.2.1.length nxd_held.2.2.2.2 2 [] [28, 68] [] [nxe_held_0, nxe_held_1] nxn_held 51) = true := by decide +kernel
set_option maxHeartbeats 4000000 in
theorem nxt_held (l : Launch) (htr : l.stackTraces = false) (cy : Nat → ClassId) (ad wr cr : Nat → Nat) (D : va_G) (hinj : nn_inj ad) : nx_H l cy ad wr cr D (197, 5, nxd_held, nxo_held) := by
  refine nx_holdW (mr := (⟨"NameNotes", "held", "(IIIIII)J"⟩, prog_1_method_23_code, 11, (Option.some Jvm.ClassFile.FieldType.long), 6, true, 2)) (dt := nn_dt197) (KS := nxk_held) htr hinj rfl rfl (by decide +kernel) nn_KI1_ok nn_KJ1_ok nn_PF1_ok nn_PS1_ok nn_PM1_ok (List.forall_mem_cons.mpr ⟨ct_34 l cy ad wr cr D hinj, List.forall_mem_cons.mpr ⟨ct_157 l cy ad wr cr D hinj, List.forall_mem_cons.mpr ⟨ct_171 l cy ad wr cr D hinj, List.forall_mem_cons.mpr ⟨ct_341 l cy ad wr cr D hinj, List.forall_mem_cons.mpr ⟨ct_344 l cy ad wr cr D hinj, fun _ h => absurd h List.not_mem_nil⟩⟩⟩⟩⟩) ?_
  intro p e s m below meth c R Q ρ σ hE hK hsy hP hRT hTH
  refine ab_entry (lev := 5) (sp := []) (HD := [28, 68]) (HN := []) (EX := [nxe_held_0, nxe_held_1]) (NS := nxn_held) (fuel := 51) (mu := ((0, [], []), (0, [], []), (0, [], []))) hE (by decide +kernel) hK hsy hP List.mem_cons_self hRT ?_ (fun nd hnd => List.all_eq_true.mp nxc_held nd hnd)
  intro nd hnd ρ2 σ2 H locs ls st hG
  rcases List.mem_cons.mp hnd with rfl | hnd
  · exact hTH 28 _ ρ2 σ2 H locs ls st 213 "no such ones" 5 (by decide +kernel) rfl (by decide +kernel) (show decode prog_1_method_23_code 28 = .ok (.new 211, 3) by decide +kernel) (show decode prog_1_method_23_code 31 = .ok (.dup, 1) by decide +kernel) (Or.inl ⟨(show decode prog_1_method_23_code 32 = .ok (.ldc 213, 2) by decide +kernel), (show decode prog_1_method_23_code 34 = .ok (.invokespecial 215, 3) by decide +kernel), (show decode prog_1_method_23_code 37 = .ok (.athrow, 1) by decide +kernel)⟩) hG
  rcases List.mem_cons.mp hnd with rfl | hnd
  · exact hTH 68 _ ρ2 σ2 H locs ls st 258 "it can't be" 6 (by decide +kernel) rfl (by decide +kernel) (show decode prog_1_method_23_code 68 = .ok (.new 211, 3) by decide +kernel) (show decode prog_1_method_23_code 71 = .ok (.dup, 1) by decide +kernel) (Or.inr ⟨(show decode prog_1_method_23_code 72 = .ok (.ldc_w 258, 3) by decide +kernel), (show decode prog_1_method_23_code 75 = .ok (.invokespecial 215, 3) by decide +kernel), (show decode prog_1_method_23_code 78 = .ok (.athrow, 1) by decide +kernel)⟩) hG
  exact absurd hnd List.not_mem_nil
/-- NameNotes.among -/
def nxd_among : ab_CN := ([(2, 0, 0), (0, 1, 0), (0, 2, 0), (0, 3, 0), (0, 4, 0)], [(0, 0), ((-2147483648), 2147483647), ((-2147483648), 2147483647), ((-2147483648), 2147483647), ((-2147483648), 2147483647)], [], [], [([(1, 5, 0)], [(0, 0), (0, 4), (1, 9), (1, 511), (0, 1), ((-9223372036854775808), 9223372036854775807)], [], [((73, 3), (3, 0))], [(73, 3), (74, 1000000), (75, 1000000)])])
def nxo_among : List ab_OU := [([], [(0, 0), ((-2147483648), 2147483647), ((-2147483648), 2147483647), ((-2147483648), 2147483647), ((-2147483648), 2147483647)], [], [], [])]
def nxe_among_0 : ab_ND := (42, ([(0, (2, 0, 0)), (1, (0, 1, 0)), (2, (0, 2, 0)), (3, (0, 3, 0)), (4, (0, 4, 0))], [], [(0, 0), ((-2147483648), 2147483647), ((-2147483648), 2147483647), ((-2147483648), 2147483647), ((-2147483648), 2147483647), (0, 5)], [], [((3, 13), (5, 0))], []), ((0, [], []), (0, [], []), (0, [], [])))
def nxn_among : List ab_ND := [((0, (ab_en0 0 nxd_among.1, [], nxd_among.2.1, nxd_among.2.2.1, nxd_among.2.2.2.1, []), ((0, [], []), (0, [], []), (0, [], []))) : ab_ND)]
def nxk_among : ab_KS := [(67, 0, cd_22), (65, 0, cd_24), (55, 0, cd_157), (71, 0, cd_166), (82, 4, cd_175), (193, 0, cd_344)]
theorem nxc_among : nxn_among.all (ab_cn vwCl nn_T nn_C nn_sh nn_MT (nn_KI1.map (fun x => x.1)) (nn_KJ1.map (fun x => x.1)) (nn_PF1.map (fun x => x.1)) nn_kd (nn_PS1.map (fun x => x.1)) (nn_PM1.map (fun x => x.1)) nxk_among 5 0 nn_dt198 5 nxd_among.2.1.length nxd_among.2.2.2.2 2 [] [42] [] [nxe_among_0] nxn_among 32) = true := by decide +kernel
set_option maxHeartbeats 4000000 in
theorem nxt_among (l : Launch) (htr : l.stackTraces = false) (cy : Nat → ClassId) (ad wr cr : Nat → Nat) (D : va_G) (hinj : nn_inj ad) : nx_H l cy ad wr cr D (198, 5, nxd_among, nxo_among) := by
  refine nx_holdW (mr := (⟨"NameNotes", "among", "(IIII)J"⟩, prog_1_method_24_code, 5, (Option.some Jvm.ClassFile.FieldType.long), 4, true, 2)) (dt := nn_dt198) (KS := nxk_among) htr hinj rfl rfl (by decide +kernel) nn_KI1_ok nn_KJ1_ok nn_PF1_ok nn_PS1_ok nn_PM1_ok (List.forall_mem_cons.mpr ⟨ct_22 l cy ad wr cr D hinj, List.forall_mem_cons.mpr ⟨ct_24 l cy ad wr cr D hinj, List.forall_mem_cons.mpr ⟨ct_157 l cy ad wr cr D hinj, List.forall_mem_cons.mpr ⟨ct_166 l cy ad wr cr D hinj, List.forall_mem_cons.mpr ⟨ct_175 l cy ad wr cr D hinj, List.forall_mem_cons.mpr ⟨ct_344 l cy ad wr cr D hinj, fun _ h => absurd h List.not_mem_nil⟩⟩⟩⟩⟩⟩) ?_
  intro p e s m below meth c R Q ρ σ hE hK hsy hP hRT hTH
  refine ab_entry (lev := 5) (sp := []) (HD := [42]) (HN := []) (EX := [nxe_among_0]) (NS := nxn_among) (fuel := 32) (mu := ((0, [], []), (0, [], []), (0, [], []))) hE (by decide +kernel) hK hsy hP List.mem_cons_self hRT ?_ (fun nd hnd => List.all_eq_true.mp nxc_among nd hnd)
  intro nd hnd ρ2 σ2 H locs ls st hG
  rcases List.mem_cons.mp hnd with rfl | hnd
  · exact hTH 42 _ ρ2 σ2 H locs ls st 213 "no such ones" 5 (by decide +kernel) rfl (by decide +kernel) (show decode prog_1_method_24_code 42 = .ok (.new 211, 3) by decide +kernel) (show decode prog_1_method_24_code 45 = .ok (.dup, 1) by decide +kernel) (Or.inl ⟨(show decode prog_1_method_24_code 46 = .ok (.ldc 213, 2) by decide +kernel), (show decode prog_1_method_24_code 48 = .ok (.invokespecial 215, 3) by decide +kernel), (show decode prog_1_method_24_code 51 = .ok (.athrow, 1) by decide +kernel)⟩) hG
  exact absurd hnd List.not_mem_nil
/-- NameNotes.match -/
def nxd_match : ab_CN := ([(2, 0, 0), (0, 1, 0), (0, 2, 0), (0, 3, 0), (0, 4, 0)], [(0, 0), ((-2147483648), 2147483647), ((-2147483648), 2147483647), ((-2147483648), 2147483647), ((-2147483648), 2147483647)], [], [], [([(1, 5, 0)], [(0, 0), (0, 2), (0, 2), (0, 9), (0, 1), ((-9223372036854775808), 9223372036854775807)], [], [], [(90, 1000000), (91, 1000000)])])
def nxo_match : List ab_OU := [([], [(0, 0), ((-2147483648), 2147483647), ((-2147483648), 2147483647), ((-2147483648), 2147483647), ((-2147483648), 2147483647)], [], [], [])]
def nxe_match_0 : ab_ND := (29, ([(0, (2, 0, 0)), (1, (0, 1, 0)), (2, (0, 2, 0)), (3, (0, 3, 0)), (4, (0, 4, 0))], [], [(0, 0), ((-2147483648), 2147483647), ((-2147483648), 2147483647), ((-2147483648), 2147483647), ((-2147483648), 2147483647)], [], [], []), ((0, [], []), (0, [], []), (0, [], [])))
def nxn_match : List ab_ND := [((0, (ab_en0 0 nxd_match.1, [], nxd_match.2.1, nxd_match.2.2.1, nxd_match.2.2.2.1, []), ((0, [], []), (0, [], []), (0, [], []))) : ab_ND)]
def nxk_match : ab_KS := [(55, 0, cd_157), (81, 0, cd_172), (136, 0, cd_200), (138, 1, cd_202), (137, 2, cd_205), (193, 0, cd_344)]
theorem nxc_match : nxn_match.all (ab_cn vwCl nn_T nn_C nn_sh nn_MT (nn_KI1.map (fun x => x.1)) (nn_KJ1.map (fun x => x.1)) (nn_PF1.map (fun x => x.1)) nn_kd (nn_PS1.map (fun x => x.1)) (nn_PM1.map (fun x => x.1)) nxk_match 3 0 nn_dt199 5 nxd_match.2.1.length nxd_match.2.2.2.2 2 [] [29] [] [nxe_match_0] nxn_match 30) = true := by decide +kernel
set_option maxHeartbeats 4000000 in
theorem nxt_match (l : Launch) (htr : l.stackTraces = false) (cy : Nat → ClassId) (ad wr cr : Nat → Nat) (D : va_G) (hinj : nn_inj ad) : nx_H l cy ad wr cr D (199, 3, nxd_match, nxo_match) := by
  refine nx_holdW (mr := (⟨"NameNotes", "match", "(IIII)J"⟩, prog_1_method_35_code, 5, (Option.some Jvm.ClassFile.FieldType.long), 4, true, 2)) (dt := nn_dt199) (KS := nxk_match) htr hinj rfl rfl (by decide +kernel) nn_KI1_ok nn_KJ1_ok nn_PF1_ok nn_PS1_ok nn_PM1_ok (List.forall_mem_cons.mpr ⟨ct_157 l cy ad wr cr D hinj, List.forall_mem_cons.mpr ⟨ct_172 l cy ad wr cr D hinj, List.forall_mem_cons.mpr ⟨ct_200 l cy ad wr cr D hinj, List.forall_mem_cons.mpr ⟨ct_202 l cy ad wr cr D hinj, List.forall_mem_cons.mpr ⟨ct_205 l cy ad wr cr D hinj, List.forall_mem_cons.mpr ⟨ct_344 l cy ad wr cr D hinj, fun _ h => absurd h List.not_mem_nil⟩⟩⟩⟩⟩⟩) ?_
  intro p e s m below meth c R Q ρ σ hE hK hsy hP hRT hTH
  refine ab_entry (lev := 3) (sp := []) (HD := [29]) (HN := []) (EX := [nxe_match_0]) (NS := nxn_match) (fuel := 30) (mu := ((0, [], []), (0, [], []), (0, [], []))) hE (by decide +kernel) hK hsy hP List.mem_cons_self hRT ?_ (fun nd hnd => List.all_eq_true.mp nxc_match nd hnd)
  intro nd hnd ρ2 σ2 H locs ls st hG
  rcases List.mem_cons.mp hnd with rfl | hnd
  · exact hTH 29 _ ρ2 σ2 H locs ls st 213 "no such ones" 5 (by decide +kernel) rfl (by decide +kernel) (show decode prog_1_method_35_code 29 = .ok (.new 211, 3) by decide +kernel) (show decode prog_1_method_35_code 32 = .ok (.dup, 1) by decide +kernel) (Or.inl ⟨(show decode prog_1_method_35_code 33 = .ok (.ldc 213, 2) by decide +kernel), (show decode prog_1_method_35_code 35 = .ok (.invokespecial 215, 3) by decide +kernel), (show decode prog_1_method_35_code 38 = .ok (.athrow, 1) by decide +kernel)⟩) hG
  exact absurd hnd List.not_mem_nil
/-- NameNotes.bolder_0 -/
def nxd_bolder_0 : ab_CN := ([(2, 0, 0), (0, 1, 0), (0, 2, 0), (0, 3, 0), (0, 4, 0), (0, 5, 0)], [(0, 0), ((-2147483648), 2147483647), ((-2147483648), 2147483647), ((-2147483648), (-1)), ((-2147483648), 2147483647), ((-2147483648), 2147483647)], [], [], [])
def nxo_bolder_0 : List ab_OU := [([], [(0, 0), ((-2147483648), (-1)), ((-2147483648), 2147483647), ((-2147483648), (-1)), ((-2147483648), 2147483647), ((-2147483648), 2147483647)], [], [], []),
    ([], [(0, 0), (3, 2147483647), ((-2147483648), 2147483647), ((-2147483648), (-1)), ((-2147483648), 2147483647), ((-2147483648), 2147483647)], [], [], []),
    ([], [(0, 0), (0, 2), ((-2147483648), (-1)), ((-2147483648), (-1)), ((-2147483648), 2147483647), ((-2147483648), 2147483647)], [], [], []),
    ([], [(0, 0), (0, 2), (3, 2147483647), ((-2147483648), (-1)), ((-2147483648), 2147483647), ((-2147483648), 2147483647)], [], [], []),
    ([], [(0, 0), (0, 2), (0, 2), ((-2147483648), (-1)), ((-2147483648), 2147483647), ((-2147483648), 2147483647)], [], [], [])]
def nxe_bolder_0_0 : ab_ND := (37, ([(0, (2, 0, 0)), (1, (0, 1, 0)), (2, (0, 2, 0)), (3, (0, 3, 0)), (4, (0, 4, 0)), (5, (0, 5, 0))], [], [(0, 0), ((-2147483648), (-1)), ((-2147483648), 2147483647), ((-2147483648), (-1)), ((-2147483648), 2147483647), ((-2147483648), 2147483647)], [], [], []), ((0, [], []), (0, [], []), (0, [], [])))
def nxe_bolder_0_1 : ab_ND := (37, ([(0, (2, 0, 0)), (1, (0, 1, 0)), (2, (0, 2, 0)), (3, (0, 3, 0)), (4, (0, 4, 0)), (5, (0, 5, 0))], [], [(0, 0), (3, 2147483647), ((-2147483648), 2147483647), ((-2147483648), (-1)), ((-2147483648), 2147483647), ((-2147483648), 2147483647)], [], [], []), ((0, [], []), (0, [], []), (0, [], [])))
def nxe_bolder_0_2 : ab_ND := (37, ([(0, (2, 0, 0)), (1, (0, 1, 0)), (2, (0, 2, 0)), (3, (0, 3, 0)), (4, (0, 4, 0)), (5, (0, 5, 0))], [], [(0, 0), (0, 2), ((-2147483648), (-1)), ((-2147483648), (-1)), ((-2147483648), 2147483647), ((-2147483648), 2147483647)], [], [], []), ((0, [], []), (0, [], []), (0, [], [])))
def nxe_bolder_0_3 : ab_ND := (37, ([(0, (2, 0, 0)), (1, (0, 1, 0)), (2, (0, 2, 0)), (3, (0, 3, 0)), (4, (0, 4, 0)), (5, (0, 5, 0))], [], [(0, 0), (0, 2), (3, 2147483647), ((-2147483648), (-1)), ((-2147483648), 2147483647), ((-2147483648), 2147483647)], [], [], []), ((0, [], []), (0, [], []), (0, [], [])))
def nxe_bolder_0_4 : ab_ND := (37, ([(0, (2, 0, 0)), (1, (0, 1, 0)), (2, (0, 2, 0)), (3, (0, 3, 0)), (4, (0, 4, 0)), (5, (0, 5, 0))], [], [(0, 0), (0, 2), (0, 2), ((-2147483648), (-1)), ((-2147483648), 2147483647), ((-2147483648), 2147483647)], [], [], []), ((0, [], []), (0, [], []), (0, [], [])))
def nxm_bolder_0_0 : ab_ND := (0, (ab_en0 0 nxd_bolder_0.1, [], nxd_bolder_0.2.1, nxd_bolder_0.2.2.1, nxd_bolder_0.2.2.2.1, []), ((0, [], []), (0, [], []), (0, [], [])))
def nxn_bolder_0 : List ab_ND := [nxm_bolder_0_0]
def nxk_bolder_0 : ab_KS := [(136, 0, le_736), (81, 0, le_737)]
theorem nxc_bolder_0_0 : ab_cn vwCl nn_T nn_C nn_sh nn_MT (nn_KI1.map (fun x => x.1)) (nn_KJ1.map (fun x => x.1)) (nn_PF1.map (fun x => x.1)) nn_kd (nn_PS1.map (fun x => x.1)) (nn_PM1.map (fun x => x.1)) nxk_bolder_0 1 0 nn_dt200 6 nxd_bolder_0.2.1.length nxd_bolder_0.2.2.2.2 2 [] [37, 47, 48] [(47, [(0, 3, 0, 0), (0, 1, 0, 0), (0, 2, 0, 0)]), (48, [(0, 4, 0, 0), (0, 5, 0, 0)])] [nxe_bolder_0_0, nxe_bolder_0_1, nxe_bolder_0_2, nxe_bolder_0_3, nxe_bolder_0_4] nxn_bolder_0 14 nxm_bolder_0_0 = true := by decide +kernel
theorem nxc_bolder_0 : nxn_bolder_0.all (ab_cn vwCl nn_T nn_C nn_sh nn_MT (nn_KI1.map (fun x => x.1)) (nn_KJ1.map (fun x => x.1)) (nn_PF1.map (fun x => x.1)) nn_kd (nn_PS1.map (fun x => x.1)) (nn_PM1.map (fun x => x.1)) nxk_bolder_0 1 0 nn_dt200 6 nxd_bolder_0.2.1.length nxd_bolder_0.2.2.2.2 2 [] [37, 47, 48] [(47, [(0, 3, 0, 0), (0, 1, 0, 0), (0, 2, 0, 0)]), (48, [(0, 4, 0, 0), (0, 5, 0, 0)])] [nxe_bolder_0_0, nxe_bolder_0_1, nxe_bolder_0_2, nxe_bolder_0_3, nxe_bolder_0_4] nxn_bolder_0 14) = true := List.all_eq_true.mpr (List.forall_mem_cons.mpr ⟨nxc_bolder_0_0, fun _ h => absurd h List.not_mem_nil⟩)
set_option maxHeartbeats 4000000 in
theorem nxt_bolder_0 (l : Launch) (htr : l.stackTraces = false) (cy : Nat → ClassId) (ad wr cr : Nat → Nat) (D : va_G) (hinj : nn_inj ad) : nx_H l cy ad wr cr D (200, 1, nxd_bolder_0, nxo_bolder_0) := by
  refine nx_holdW (mr := (⟨"NameNotes", "bolder", "(IIIII)J"⟩, prog_1_method_37_code, 6, (Option.some Jvm.ClassFile.FieldType.long), 5, true, 2)) (dt := nn_dt200) (KS := nxk_bolder_0) htr hinj rfl rfl (by decide +kernel) nn_KI1_ok nn_KJ1_ok nn_PF1_ok nn_PS1_ok nn_PM1_ok (List.forall_mem_cons.mpr ⟨lf_736 l cy ad wr cr D hinj, List.forall_mem_cons.mpr ⟨lf_737 l cy ad wr cr D hinj, fun _ h => absurd h List.not_mem_nil⟩⟩) ?_
  intro p e s m below meth c R Q ρ σ hE hK hsy hP hRT hTH
  refine ab_entry (lev := 1) (sp := []) (HD := [37, 47, 48]) (HN := [(47, [(0, 3, 0, 0), (0, 1, 0, 0), (0, 2, 0, 0)]), (48, [(0, 4, 0, 0), (0, 5, 0, 0)])]) (EX := [nxe_bolder_0_0, nxe_bolder_0_1, nxe_bolder_0_2, nxe_bolder_0_3, nxe_bolder_0_4]) (NS := nxn_bolder_0) (fuel := 14) (mu := ((0, [], []), (0, [], []), (0, [], []))) hE (by decide +kernel) hK hsy hP List.mem_cons_self hRT ?_ (fun nd hnd => List.all_eq_true.mp nxc_bolder_0 nd hnd)
  intro nd hnd ρ2 σ2 H locs ls st hG
  rcases List.mem_cons.mp hnd with rfl | hnd
  · exact hTH 37 _ ρ2 σ2 H locs ls st 213 "no such ones" 5 (by decide +kernel) rfl (by decide +kernel) (show decode prog_1_method_37_code 37 = .ok (.new 211, 3) by decide +kernel) (show decode prog_1_method_37_code 40 = .ok (.dup, 1) by decide +kernel) (Or.inl ⟨(show decode prog_1_method_37_code 41 = .ok (.ldc 213, 2) by decide +kernel), (show decode prog_1_method_37_code 43 = .ok (.invokespecial 215, 3) by decide +kernel), (show decode prog_1_method_37_code 46 = .ok (.athrow, 1) by decide +kernel)⟩) hG
  rcases List.mem_cons.mp hnd with rfl | hnd
  · exact hTH 37 _ ρ2 σ2 H locs ls st 213 "no such ones" 5 (by decide +kernel) rfl (by decide +kernel) (show decode prog_1_method_37_code 37 = .ok (.new 211, 3) by decide +kernel) (show decode prog_1_method_37_code 40 = .ok (.dup, 1) by decide +kernel) (Or.inl ⟨(show decode prog_1_method_37_code 41 = .ok (.ldc 213, 2) by decide +kernel), (show decode prog_1_method_37_code 43 = .ok (.invokespecial 215, 3) by decide +kernel), (show decode prog_1_method_37_code 46 = .ok (.athrow, 1) by decide +kernel)⟩) hG
  rcases List.mem_cons.mp hnd with rfl | hnd
  · exact hTH 37 _ ρ2 σ2 H locs ls st 213 "no such ones" 5 (by decide +kernel) rfl (by decide +kernel) (show decode prog_1_method_37_code 37 = .ok (.new 211, 3) by decide +kernel) (show decode prog_1_method_37_code 40 = .ok (.dup, 1) by decide +kernel) (Or.inl ⟨(show decode prog_1_method_37_code 41 = .ok (.ldc 213, 2) by decide +kernel), (show decode prog_1_method_37_code 43 = .ok (.invokespecial 215, 3) by decide +kernel), (show decode prog_1_method_37_code 46 = .ok (.athrow, 1) by decide +kernel)⟩) hG
  rcases List.mem_cons.mp hnd with rfl | hnd
  · exact hTH 37 _ ρ2 σ2 H locs ls st 213 "no such ones" 5 (by decide +kernel) rfl (by decide +kernel) (show decode prog_1_method_37_code 37 = .ok (.new 211, 3) by decide +kernel) (show decode prog_1_method_37_code 40 = .ok (.dup, 1) by decide +kernel) (Or.inl ⟨(show decode prog_1_method_37_code 41 = .ok (.ldc 213, 2) by decide +kernel), (show decode prog_1_method_37_code 43 = .ok (.invokespecial 215, 3) by decide +kernel), (show decode prog_1_method_37_code 46 = .ok (.athrow, 1) by decide +kernel)⟩) hG
  rcases List.mem_cons.mp hnd with rfl | hnd
  · exact hTH 37 _ ρ2 σ2 H locs ls st 213 "no such ones" 5 (by decide +kernel) rfl (by decide +kernel) (show decode prog_1_method_37_code 37 = .ok (.new 211, 3) by decide +kernel) (show decode prog_1_method_37_code 40 = .ok (.dup, 1) by decide +kernel) (Or.inl ⟨(show decode prog_1_method_37_code 41 = .ok (.ldc 213, 2) by decide +kernel), (show decode prog_1_method_37_code 43 = .ok (.invokespecial 215, 3) by decide +kernel), (show decode prog_1_method_37_code 46 = .ok (.athrow, 1) by decide +kernel)⟩) hG
  exact absurd hnd List.not_mem_nil
/-- NameNotes.bolder_1 -/
def nxd_bolder_1 : ab_CN := ([(2, 0, 0), (0, 1, 0), (0, 2, 0), (0, 3, 0), (0, 4, 0), (0, 5, 0)], [(0, 0), ((-2147483648), 2147483647), ((-2147483648), 2147483647), (0, 0), ((-2147483648), 2147483647), ((-2147483648), 2147483647)], [], [], [([(1, 0, 1)], [(0, 0), (2, 2), (2, 2), (0, 0), (9, 9), (1, 1)], [], [], [(90, 1000000), (91, 1000000)]),
    ([(1, 0, 1)], [(0, 0), (2, 2), (2, 2), (0, 0), (9, 9), (0, 0)], [], [], [(90, 1000000), (91, 1000000)]),
    ([(1, 0, 9)], [(0, 0), (2, 2), (2, 2), (0, 0), (8, 8), (1, 1)], [], [], [(90, 1000000), (91, 1000000)]),
    ([(1, 0, 8)], [(0, 0), (2, 2), (2, 2), (0, 0), (8, 8), (0, 0)], [], [], [(90, 1000000), (91, 1000000)]),
    ([(1, 0, 9)], [(0, 0), (2, 2), (2, 2), (0, 0), (7, 7), (1, 1)], [], [], [(90, 1000000), (91, 1000000)]),
    ([(1, 0, 7)], [(0, 0), (2, 2), (2, 2), (0, 0), (7, 7), (0, 0)], [], [], [(90, 1000000), (91, 1000000)]),
    ([(1, 0, 3)], [(0, 0), (2, 2), (2, 2), (0, 0), (6, 6), (1, 1)], [], [], [(90, 1000000), (91, 1000000)]),
    ([(1, 0, 2)], [(0, 0), (2, 2), (2, 2), (0, 0), (6, 6), (0, 0)], [], [], [(90, 1000000), (91, 1000000)]),
    ([(1, 0, 9)], [(0, 0), (2, 2), (2, 2), (0, 0), (5, 5), (1, 1)], [], [], [(90, 1000000), (91, 1000000)]),
    ([(1, 0, 5)], [(0, 0), (2, 2), (2, 2), (0, 0), (5, 5), (0, 0)], [], [], [(90, 1000000), (91, 1000000)]),
    ([(1, 0, 9)], [(0, 0), (2, 2), (2, 2), (0, 0), (4, 4), (1, 1)], [], [], [(90, 1000000), (91, 1000000)]),
    ([(1, 0, 4)], [(0, 0), (2, 2), (2, 2), (0, 0), (4, 4), (0, 0)], [], [], [(90, 1000000), (91, 1000000)]),
    ([(1, 0, 3)], [(0, 0), (2, 2), (2, 2), (0, 0), (3, 3), (1, 1)], [], [], [(90, 1000000), (91, 1000000)]),
    ([(1, 0, 1)], [(0, 0), (2, 2), (2, 2), (0, 0), (3, 3), (0, 0)], [], [], [(90, 1000000), (91, 1000000)]),
    ([(1, 0, 9)], [(0, 0), (2, 2), (2, 2), (0, 0), (2, 2), (1, 1)], [], [], [(90, 1000000), (91, 1000000)]),
    ([(1, 0, 2)], [(0, 0), (2, 2), (2, 2), (0, 0), (2, 2), (0, 0)], [], [], [(90, 1000000), (91, 1000000)]),
    ([(1, 0, 9)], [(0, 0), (2, 2), (2, 2), (0, 0), (1, 1), (1, 1)], [], [], [(90, 1000000), (91, 1000000)]),
    ([(1, 0, 1)], [(0, 0), (2, 2), (2, 2), (0, 0), (1, 1), (0, 0)], [], [], [(90, 1000000), (91, 1000000)]),
    ([(1, 0, 1)], [(0, 0), (2, 2), (2, 2), (0, 0), (0, 0), (1, 1)], [], [], [(90, 1000000), (91, 1000000)]),
    ([(1, 0, 0)], [(0, 0), (2, 2), (2, 2), (0, 0), (0, 0), (0, 0)], [], [], [(90, 1000000), (91, 1000000)]),
    ([(1, 0, 1)], [(0, 0), (2, 2), (1, 1), (0, 0), (9, 9), (1, 1)], [], [], [(90, 1000000), (91, 1000000)]),
    ([(1, 0, 1)], [(0, 0), (2, 2), (1, 1), (0, 0), (9, 9), (0, 0)], [], [], [(90, 1000000), (91, 1000000)]),
    ([(1, 0, 9)], [(0, 0), (2, 2), (1, 1), (0, 0), (8, 8), (1, 1)], [], [], [(90, 1000000), (91, 1000000)]),
    ([(1, 0, 8)], [(0, 0), (2, 2), (1, 1), (0, 0), (8, 8), (0, 0)], [], [], [(90, 1000000), (91, 1000000)]),
    ([(1, 0, 9)], [(0, 0), (2, 2), (1, 1), (0, 0), (7, 7), (1, 1)], [], [], [(90, 1000000), (91, 1000000)]),
    ([(1, 0, 7)], [(0, 0), (2, 2), (1, 1), (0, 0), (7, 7), (0, 0)], [], [], [(90, 1000000), (91, 1000000)]),
    ([(1, 0, 3)], [(0, 0), (2, 2), (1, 1), (0, 0), (6, 6), (1, 1)], [], [], [(90, 1000000), (91, 1000000)]),
    ([(1, 0, 2)], [(0, 0), (2, 2), (1, 1), (0, 0), (6, 6), (0, 0)], [], [], [(90, 1000000), (91, 1000000)]),
    ([(1, 0, 9)], [(0, 0), (2, 2), (1, 1), (0, 0), (5, 5), (1, 1)], [], [], [(90, 1000000), (91, 1000000)]),
    ([(1, 0, 5)], [(0, 0), (2, 2), (1, 1), (0, 0), (5, 5), (0, 0)], [], [], [(90, 1000000), (91, 1000000)]),
    ([(1, 0, 9)], [(0, 0), (2, 2), (1, 1), (0, 0), (4, 4), (1, 1)], [], [], [(90, 1000000), (91, 1000000)]),
    ([(1, 0, 4)], [(0, 0), (2, 2), (1, 1), (0, 0), (4, 4), (0, 0)], [], [], [(90, 1000000), (91, 1000000)]),
    ([(1, 0, 3)], [(0, 0), (2, 2), (1, 1), (0, 0), (3, 3), (1, 1)], [], [], [(90, 1000000), (91, 1000000)]),
    ([(1, 0, 1)], [(0, 0), (2, 2), (1, 1), (0, 0), (3, 3), (0, 0)], [], [], [(90, 1000000), (91, 1000000)]),
    ([(1, 0, 9)], [(0, 0), (2, 2), (1, 1), (0, 0), (2, 2), (1, 1)], [], [], [(90, 1000000), (91, 1000000)]),
    ([(1, 0, 2)], [(0, 0), (2, 2), (1, 1), (0, 0), (2, 2), (0, 0)], [], [], [(90, 1000000), (91, 1000000)]),
    ([(1, 0, 9)], [(0, 0), (2, 2), (1, 1), (0, 0), (1, 1), (1, 1)], [], [], [(90, 1000000), (91, 1000000)]),
    ([(1, 0, 1)], [(0, 0), (2, 2), (1, 1), (0, 0), (1, 1), (0, 0)], [], [], [(90, 1000000), (91, 1000000)]),
    ([(1, 0, 1)], [(0, 0), (2, 2), (1, 1), (0, 0), (0, 0), (1, 1)], [], [], [(90, 1000000), (91, 1000000)]),
    ([(1, 0, 0)], [(0, 0), (2, 2), (1, 1), (0, 0), (0, 0), (0, 0)], [], [], [(90, 1000000), (91, 1000000)]),
    ([(1, 0, 1)], [(0, 0), (2, 2), (0, 0), (0, 0), (9, 9), (1, 1)], [], [], [(90, 1000000), (91, 1000000)]),
    ([(1, 0, 1)], [(0, 0), (2, 2), (0, 0), (0, 0), (9, 9), (0, 0)], [], [], [(90, 1000000), (91, 1000000)]),
    ([(1, 0, 81)], [(0, 0), (2, 2), (0, 0), (0, 0), (8, 8), (1, 1)], [], [], [(90, 1000000), (91, 1000000)]),
    ([(1, 0, 80)], [(0, 0), (2, 2), (0, 0), (0, 0), (8, 8), (0, 0)], [], [], [(90, 1000000), (91, 1000000)]),
    ([(1, 0, 81)], [(0, 0), (2, 2), (0, 0), (0, 0), (7, 7), (1, 1)], [], [], [(90, 1000000), (91, 1000000)]),
    ([(1, 0, 77)], [(0, 0), (2, 2), (0, 0), (0, 0), (7, 7), (0, 0)], [], [], [(90, 1000000), (91, 1000000)]),
    ([(1, 0, 9)], [(0, 0), (2, 2), (0, 0), (0, 0), (6, 6), (1, 1)], [], [], [(90, 1000000), (91, 1000000)]),
    ([(1, 0, 8)], [(0, 0), (2, 2), (0, 0), (0, 0), (6, 6), (0, 0)], [], [], [(90, 1000000), (91, 1000000)]),
    ([(1, 0, 81)], [(0, 0), (2, 2), (0, 0), (0, 0), (5, 5), (1, 1)], [], [], [(90, 1000000), (91, 1000000)]),
    ([(1, 0, 65)], [(0, 0), (2, 2), (0, 0), (0, 0), (5, 5), (0, 0)], [], [], [(90, 1000000), (91, 1000000)]),
    ([(1, 0, 81)], [(0, 0), (2, 2), (0, 0), (0, 0), (4, 4), (1, 1)], [], [], [(90, 1000000), (91, 1000000)]),
    ([(1, 0, 56)], [(0, 0), (2, 2), (0, 0), (0, 0), (4, 4), (0, 0)], [], [], [(90, 1000000), (91, 1000000)]),
    ([(1, 0, 9)], [(0, 0), (2, 2), (0, 0), (0, 0), (3, 3), (1, 1)], [], [], [(90, 1000000), (91, 1000000)]),
    ([(1, 0, 5)], [(0, 0), (2, 2), (0, 0), (0, 0), (3, 3), (0, 0)], [], [], [(90, 1000000), (91, 1000000)]),
    ([(1, 0, 81)], [(0, 0), (2, 2), (0, 0), (0, 0), (2, 2), (1, 1)], [], [], [(90, 1000000), (91, 1000000)]),
    ([(1, 0, 32)], [(0, 0), (2, 2), (0, 0), (0, 0), (2, 2), (0, 0)], [], [], [(90, 1000000), (91, 1000000)]),
    ([(1, 0, 81)], [(0, 0), (2, 2), (0, 0), (0, 0), (1, 1), (1, 1)], [], [], [(90, 1000000), (91, 1000000)]),
    ([(1, 0, 17)], [(0, 0), (2, 2), (0, 0), (0, 0), (1, 1), (0, 0)], [], [], [(90, 1000000), (91, 1000000)]),
    ([(1, 0, 1)], [(0, 0), (2, 2), (0, 0), (0, 0), (0, 0), (1, 1)], [], [], [(90, 1000000), (91, 1000000)]),
    ([(1, 0, 0)], [(0, 0), (2, 2), (0, 0), (0, 0), (0, 0), (0, 0)], [], [], [(90, 1000000), (91, 1000000)]),
    ([(1, 0, 1)], [(0, 0), (1, 1), (2, 2), (0, 0), (9, 9), (1, 1)], [], [], [(90, 1000000), (91, 1000000)]),
    ([(1, 0, 1)], [(0, 0), (1, 1), (2, 2), (0, 0), (9, 9), (0, 0)], [], [], [(90, 1000000), (91, 1000000)]),
    ([(1, 0, 9)], [(0, 0), (1, 1), (2, 2), (0, 0), (8, 8), (1, 1)], [], [], [(90, 1000000), (91, 1000000)]),
    ([(1, 0, 8)], [(0, 0), (1, 1), (2, 2), (0, 0), (8, 8), (0, 0)], [], [], [(90, 1000000), (91, 1000000)]),
    ([(1, 0, 9)], [(0, 0), (1, 1), (2, 2), (0, 0), (7, 7), (1, 1)], [], [], [(90, 1000000), (91, 1000000)]),
    ([(1, 0, 7)], [(0, 0), (1, 1), (2, 2), (0, 0), (7, 7), (0, 0)], [], [], [(90, 1000000), (91, 1000000)]),
    ([(1, 0, 3)], [(0, 0), (1, 1), (2, 2), (0, 0), (6, 6), (1, 1)], [], [], [(90, 1000000), (91, 1000000)]),
    ([(1, 0, 2)], [(0, 0), (1, 1), (2, 2), (0, 0), (6, 6), (0, 0)], [], [], [(90, 1000000), (91, 1000000)]),
    ([(1, 0, 9)], [(0, 0), (1, 1), (2, 2), (0, 0), (5, 5), (1, 1)], [], [], [(90, 1000000), (91, 1000000)]),
    ([(1, 0, 5)], [(0, 0), (1, 1), (2, 2), (0, 0), (5, 5), (0, 0)], [], [], [(90, 1000000), (91, 1000000)]),
    ([(1, 0, 9)], [(0, 0), (1, 1), (2, 2), (0, 0), (4, 4), (1, 1)], [], [], [(90, 1000000), (91, 1000000)]),
    ([(1, 0, 4)], [(0, 0), (1, 1), (2, 2), (0, 0), (4, 4), (0, 0)], [], [], [(90, 1000000), (91, 1000000)]),
    ([(1, 0, 3)], [(0, 0), (1, 1), (2, 2), (0, 0), (3, 3), (1, 1)], [], [], [(90, 1000000), (91, 1000000)]),
    ([(1, 0, 1)], [(0, 0), (1, 1), (2, 2), (0, 0), (3, 3), (0, 0)], [], [], [(90, 1000000), (91, 1000000)]),
    ([(1, 0, 9)], [(0, 0), (1, 1), (2, 2), (0, 0), (2, 2), (1, 1)], [], [], [(90, 1000000), (91, 1000000)]),
    ([(1, 0, 2)], [(0, 0), (1, 1), (2, 2), (0, 0), (2, 2), (0, 0)], [], [], [(90, 1000000), (91, 1000000)]),
    ([(1, 0, 9)], [(0, 0), (1, 1), (2, 2), (0, 0), (1, 1), (1, 1)], [], [], [(90, 1000000), (91, 1000000)]),
    ([(1, 0, 1)], [(0, 0), (1, 1), (2, 2), (0, 0), (1, 1), (0, 0)], [], [], [(90, 1000000), (91, 1000000)]),
    ([(1, 0, 1)], [(0, 0), (1, 1), (2, 2), (0, 0), (0, 0), (1, 1)], [], [], [(90, 1000000), (91, 1000000)]),
    ([(1, 0, 0)], [(0, 0), (1, 1), (2, 2), (0, 0), (0, 0), (0, 0)], [], [], [(90, 1000000), (91, 1000000)]),
    ([(1, 0, 1)], [(0, 0), (1, 1), (1, 1), (0, 0), (9, 9), (1, 1)], [], [], [(90, 1000000), (91, 1000000)]),
    ([(1, 0, 1)], [(0, 0), (1, 1), (1, 1), (0, 0), (9, 9), (0, 0)], [], [], [(90, 1000000), (91, 1000000)]),
    ([(1, 0, 9)], [(0, 0), (1, 1), (1, 1), (0, 0), (8, 8), (1, 1)], [], [], [(90, 1000000), (91, 1000000)]),
    ([(1, 0, 8)], [(0, 0), (1, 1), (1, 1), (0, 0), (8, 8), (0, 0)], [], [], [(90, 1000000), (91, 1000000)]),
    ([(1, 0, 9)], [(0, 0), (1, 1), (1, 1), (0, 0), (7, 7), (1, 1)], [], [], [(90, 1000000), (91, 1000000)]),
    ([(1, 0, 7)], [(0, 0), (1, 1), (1, 1), (0, 0), (7, 7), (0, 0)], [], [], [(90, 1000000), (91, 1000000)]),
    ([(1, 0, 3)], [(0, 0), (1, 1), (1, 1), (0, 0), (6, 6), (1, 1)], [], [], [(90, 1000000), (91, 1000000)]),
    ([(1, 0, 2)], [(0, 0), (1, 1), (1, 1), (0, 0), (6, 6), (0, 0)], [], [], [(90, 1000000), (91, 1000000)]),
    ([(1, 0, 9)], [(0, 0), (1, 1), (1, 1), (0, 0), (5, 5), (1, 1)], [], [], [(90, 1000000), (91, 1000000)]),
    ([(1, 0, 5)], [(0, 0), (1, 1), (1, 1), (0, 0), (5, 5), (0, 0)], [], [], [(90, 1000000), (91, 1000000)]),
    ([(1, 0, 9)], [(0, 0), (1, 1), (1, 1), (0, 0), (4, 4), (1, 1)], [], [], [(90, 1000000), (91, 1000000)]),
    ([(1, 0, 4)], [(0, 0), (1, 1), (1, 1), (0, 0), (4, 4), (0, 0)], [], [], [(90, 1000000), (91, 1000000)]),
    ([(1, 0, 3)], [(0, 0), (1, 1), (1, 1), (0, 0), (3, 3), (1, 1)], [], [], [(90, 1000000), (91, 1000000)]),
    ([(1, 0, 1)], [(0, 0), (1, 1), (1, 1), (0, 0), (3, 3), (0, 0)], [], [], [(90, 1000000), (91, 1000000)]),
    ([(1, 0, 9)], [(0, 0), (1, 1), (1, 1), (0, 0), (2, 2), (1, 1)], [], [], [(90, 1000000), (91, 1000000)]),
    ([(1, 0, 2)], [(0, 0), (1, 1), (1, 1), (0, 0), (2, 2), (0, 0)], [], [], [(90, 1000000), (91, 1000000)]),
    ([(1, 0, 9)], [(0, 0), (1, 1), (1, 1), (0, 0), (1, 1), (1, 1)], [], [], [(90, 1000000), (91, 1000000)]),
    ([(1, 0, 1)], [(0, 0), (1, 1), (1, 1), (0, 0), (1, 1), (0, 0)], [], [], [(90, 1000000), (91, 1000000)]),
    ([(1, 0, 1)], [(0, 0), (1, 1), (1, 1), (0, 0), (0, 0), (1, 1)], [], [], [(90, 1000000), (91, 1000000)]),
    ([(1, 0, 0)], [(0, 0), (1, 1), (1, 1), (0, 0), (0, 0), (0, 0)], [], [], [(90, 1000000), (91, 1000000)]),
    ([(1, 0, 1)], [(0, 0), (1, 1), (0, 0), (0, 0), (9, 9), (1, 1)], [], [], [(90, 1000000), (91, 1000000)]),
    ([(1, 0, 1)], [(0, 0), (1, 1), (0, 0), (0, 0), (9, 9), (0, 0)], [], [], [(90, 1000000), (91, 1000000)]),
    ([(1, 0, 81)], [(0, 0), (1, 1), (0, 0), (0, 0), (8, 8), (1, 1)], [], [], [(90, 1000000), (91, 1000000)]),
    ([(1, 0, 80)], [(0, 0), (1, 1), (0, 0), (0, 0), (8, 8), (0, 0)], [], [], [(90, 1000000), (91, 1000000)]),
    ([(1, 0, 81)], [(0, 0), (1, 1), (0, 0), (0, 0), (7, 7), (1, 1)], [], [], [(90, 1000000), (91, 1000000)]),
    ([(1, 0, 77)], [(0, 0), (1, 1), (0, 0), (0, 0), (7, 7), (0, 0)], [], [], [(90, 1000000), (91, 1000000)]),
    ([(1, 0, 9)], [(0, 0), (1, 1), (0, 0), (0, 0), (6, 6), (1, 1)], [], [], [(90, 1000000), (91, 1000000)]),
    ([(1, 0, 8)], [(0, 0), (1, 1), (0, 0), (0, 0), (6, 6), (0, 0)], [], [], [(90, 1000000), (91, 1000000)]),
    ([(1, 0, 81)], [(0, 0), (1, 1), (0, 0), (0, 0), (5, 5), (1, 1)], [], [], [(90, 1000000), (91, 1000000)]),
    ([(1, 0, 65)], [(0, 0), (1, 1), (0, 0), (0, 0), (5, 5), (0, 0)], [], [], [(90, 1000000), (91, 1000000)]),
    ([(1, 0, 81)], [(0, 0), (1, 1), (0, 0), (0, 0), (4, 4), (1, 1)], [], [], [(90, 1000000), (91, 1000000)]),
    ([(1, 0, 56)], [(0, 0), (1, 1), (0, 0), (0, 0), (4, 4), (0, 0)], [], [], [(90, 1000000), (91, 1000000)]),
    ([(1, 0, 9)], [(0, 0), (1, 1), (0, 0), (0, 0), (3, 3), (1, 1)], [], [], [(90, 1000000), (91, 1000000)]),
    ([(1, 0, 5)], [(0, 0), (1, 1), (0, 0), (0, 0), (3, 3), (0, 0)], [], [], [(90, 1000000), (91, 1000000)]),
    ([(1, 0, 81)], [(0, 0), (1, 1), (0, 0), (0, 0), (2, 2), (1, 1)], [], [], [(90, 1000000), (91, 1000000)]),
    ([(1, 0, 32)], [(0, 0), (1, 1), (0, 0), (0, 0), (2, 2), (0, 0)], [], [], [(90, 1000000), (91, 1000000)]),
    ([(1, 0, 81)], [(0, 0), (1, 1), (0, 0), (0, 0), (1, 1), (1, 1)], [], [], [(90, 1000000), (91, 1000000)]),
    ([(1, 0, 17)], [(0, 0), (1, 1), (0, 0), (0, 0), (1, 1), (0, 0)], [], [], [(90, 1000000), (91, 1000000)]),
    ([(1, 0, 1)], [(0, 0), (1, 1), (0, 0), (0, 0), (0, 0), (1, 1)], [], [], [(90, 1000000), (91, 1000000)]),
    ([(1, 0, 0)], [(0, 0), (1, 1), (0, 0), (0, 0), (0, 0), (0, 0)], [], [], [(90, 1000000), (91, 1000000)]),
    ([(1, 0, 1)], [(0, 0), (0, 0), (2, 2), (0, 0), (9, 9), (1, 1)], [], [], [(90, 1000000), (91, 1000000)]),
    ([(1, 0, 1)], [(0, 0), (0, 0), (2, 2), (0, 0), (9, 9), (0, 0)], [], [], [(90, 1000000), (91, 1000000)]),
    ([(1, 0, 81)], [(0, 0), (0, 0), (2, 2), (0, 0), (8, 8), (1, 1)], [], [], [(90, 1000000), (91, 1000000)]),
    ([(1, 0, 64)], [(0, 0), (0, 0), (2, 2), (0, 0), (8, 8), (0, 0)], [], [], [(90, 1000000), (91, 1000000)]),
    ([(1, 0, 81)], [(0, 0), (0, 0), (2, 2), (0, 0), (7, 7), (1, 1)], [], [], [(90, 1000000), (91, 1000000)]),
    ([(1, 0, 49)], [(0, 0), (0, 0), (2, 2), (0, 0), (7, 7), (0, 0)], [], [], [(90, 1000000), (91, 1000000)]),
    ([(1, 0, 9)], [(0, 0), (0, 0), (2, 2), (0, 0), (6, 6), (1, 1)], [], [], [(90, 1000000), (91, 1000000)]),
    ([(1, 0, 4)], [(0, 0), (0, 0), (2, 2), (0, 0), (6, 6), (0, 0)], [], [], [(90, 1000000), (91, 1000000)]),
    ([(1, 0, 81)], [(0, 0), (0, 0), (2, 2), (0, 0), (5, 5), (1, 1)], [], [], [(90, 1000000), (91, 1000000)]),
    ([(1, 0, 25)], [(0, 0), (0, 0), (2, 2), (0, 0), (5, 5), (0, 0)], [], [], [(90, 1000000), (91, 1000000)]),
    ([(1, 0, 81)], [(0, 0), (0, 0), (2, 2), (0, 0), (4, 4), (1, 1)], [], [], [(90, 1000000), (91, 1000000)]),
    ([(1, 0, 16)], [(0, 0), (0, 0), (2, 2), (0, 0), (4, 4), (0, 0)], [], [], [(90, 1000000), (91, 1000000)]),
    ([(1, 0, 9)], [(0, 0), (0, 0), (2, 2), (0, 0), (3, 3), (1, 1)], [], [], [(90, 1000000), (91, 1000000)]),
    ([(1, 0, 1)], [(0, 0), (0, 0), (2, 2), (0, 0), (3, 3), (0, 0)], [], [], [(90, 1000000), (91, 1000000)]),
    ([(1, 0, 81)], [(0, 0), (0, 0), (2, 2), (0, 0), (2, 2), (1, 1)], [], [], [(90, 1000000), (91, 1000000)]),
    ([(1, 0, 4)], [(0, 0), (0, 0), (2, 2), (0, 0), (2, 2), (0, 0)], [], [], [(90, 1000000), (91, 1000000)]),
    ([(1, 0, 81)], [(0, 0), (0, 0), (2, 2), (0, 0), (1, 1), (1, 1)], [], [], [(90, 1000000), (91, 1000000)]),
    ([(1, 0, 1)], [(0, 0), (0, 0), (2, 2), (0, 0), (1, 1), (0, 0)], [], [], [(90, 1000000), (91, 1000000)]),
    ([(1, 0, 1)], [(0, 0), (0, 0), (2, 2), (0, 0), (0, 0), (1, 1)], [], [], [(90, 1000000), (91, 1000000)]),
    ([(1, 0, 0)], [(0, 0), (0, 0), (2, 2), (0, 0), (0, 0), (0, 0)], [], [], [(90, 1000000), (91, 1000000)]),
    ([(1, 0, 1)], [(0, 0), (0, 0), (1, 1), (0, 0), (9, 9), (1, 1)], [], [], [(90, 1000000), (91, 1000000)]),
    ([(1, 0, 1)], [(0, 0), (0, 0), (1, 1), (0, 0), (9, 9), (0, 0)], [], [], [(90, 1000000), (91, 1000000)]),
    ([(1, 0, 81)], [(0, 0), (0, 0), (1, 1), (0, 0), (8, 8), (1, 1)], [], [], [(90, 1000000), (91, 1000000)]),
    ([(1, 0, 64)], [(0, 0), (0, 0), (1, 1), (0, 0), (8, 8), (0, 0)], [], [], [(90, 1000000), (91, 1000000)]),
    ([(1, 0, 81)], [(0, 0), (0, 0), (1, 1), (0, 0), (7, 7), (1, 1)], [], [], [(90, 1000000), (91, 1000000)]),
    ([(1, 0, 49)], [(0, 0), (0, 0), (1, 1), (0, 0), (7, 7), (0, 0)], [], [], [(90, 1000000), (91, 1000000)]),
    ([(1, 0, 9)], [(0, 0), (0, 0), (1, 1), (0, 0), (6, 6), (1, 1)], [], [], [(90, 1000000), (91, 1000000)]),
    ([(1, 0, 4)], [(0, 0), (0, 0), (1, 1), (0, 0), (6, 6), (0, 0)], [], [], [(90, 1000000), (91, 1000000)]),
    ([(1, 0, 81)], [(0, 0), (0, 0), (1, 1), (0, 0), (5, 5), (1, 1)], [], [], [(90, 1000000), (91, 1000000)]),
    ([(1, 0, 25)], [(0, 0), (0, 0), (1, 1), (0, 0), (5, 5), (0, 0)], [], [], [(90, 1000000), (91, 1000000)]),
    ([(1, 0, 81)], [(0, 0), (0, 0), (1, 1), (0, 0), (4, 4), (1, 1)], [], [], [(90, 1000000), (91, 1000000)]),
    ([(1, 0, 16)], [(0, 0), (0, 0), (1, 1), (0, 0), (4, 4), (0, 0)], [], [], [(90, 1000000), (91, 1000000)]),
    ([(1, 0, 9)], [(0, 0), (0, 0), (1, 1), (0, 0), (3, 3), (1, 1)], [], [], [(90, 1000000), (91, 1000000)]),
    ([(1, 0, 1)], [(0, 0), (0, 0), (1, 1), (0, 0), (3, 3), (0, 0)], [], [], [(90, 1000000), (91, 1000000)]),
    ([(1, 0, 81)], [(0, 0), (0, 0), (1, 1), (0, 0), (2, 2), (1, 1)], [], [], [(90, 1000000), (91, 1000000)]),
    ([(1, 0, 4)], [(0, 0), (0, 0), (1, 1), (0, 0), (2, 2), (0, 0)], [], [], [(90, 1000000), (91, 1000000)]),
    ([(1, 0, 81)], [(0, 0), (0, 0), (1, 1), (0, 0), (1, 1), (1, 1)], [], [], [(90, 1000000), (91, 1000000)]),
    ([(1, 0, 1)], [(0, 0), (0, 0), (1, 1), (0, 0), (1, 1), (0, 0)], [], [], [(90, 1000000), (91, 1000000)]),
    ([(1, 0, 1)], [(0, 0), (0, 0), (1, 1), (0, 0), (0, 0), (1, 1)], [], [], [(90, 1000000), (91, 1000000)]),
    ([(1, 0, 0)], [(0, 0), (0, 0), (1, 1), (0, 0), (0, 0), (0, 0)], [], [], [(90, 1000000), (91, 1000000)]),
    ([(1, 0, 1)], [(0, 0), (0, 0), (0, 0), (0, 0), (9, 9), (1, 1)], [], [], [(90, 1000000), (91, 1000000)]),
    ([(1, 0, 1)], [(0, 0), (0, 0), (0, 0), (0, 0), (9, 9), (0, 0)], [], [], [(90, 1000000), (91, 1000000)]),
    ([(1, 0, 729)], [(0, 0), (0, 0), (0, 0), (0, 0), (8, 8), (1, 1)], [], [], [(90, 1000000), (91, 1000000)]),
    ([(1, 0, 704)], [(0, 0), (0, 0), (0, 0), (0, 0), (8, 8), (0, 0)], [], [], [(90, 1000000), (91, 1000000)]),
    ([(1, 0, 729)], [(0, 0), (0, 0), (0, 0), (0, 0), (7, 7), (1, 1)], [], [], [(90, 1000000), (91, 1000000)]),
    ([(1, 0, 637)], [(0, 0), (0, 0), (0, 0), (0, 0), (7, 7), (0, 0)], [], [], [(90, 1000000), (91, 1000000)]),
    ([(1, 0, 27)], [(0, 0), (0, 0), (0, 0), (0, 0), (6, 6), (1, 1)], [], [], [(90, 1000000), (91, 1000000)]),
    ([(1, 0, 20)], [(0, 0), (0, 0), (0, 0), (0, 0), (6, 6), (0, 0)], [], [], [(90, 1000000), (91, 1000000)]),
    ([(1, 0, 729)], [(0, 0), (0, 0), (0, 0), (0, 0), (5, 5), (1, 1)], [], [], [(90, 1000000), (91, 1000000)]),
    ([(1, 0, 425)], [(0, 0), (0, 0), (0, 0), (0, 0), (5, 5), (0, 0)], [], [], [(90, 1000000), (91, 1000000)]),
    ([(1, 0, 729)], [(0, 0), (0, 0), (0, 0), (0, 0), (4, 4), (1, 1)], [], [], [(90, 1000000), (91, 1000000)]),
    ([(1, 0, 304)], [(0, 0), (0, 0), (0, 0), (0, 0), (4, 4), (0, 0)], [], [], [(90, 1000000), (91, 1000000)]),
    ([(1, 0, 27)], [(0, 0), (0, 0), (0, 0), (0, 0), (3, 3), (1, 1)], [], [], [(90, 1000000), (91, 1000000)]),
    ([(1, 0, 7)], [(0, 0), (0, 0), (0, 0), (0, 0), (3, 3), (0, 0)], [], [], [(90, 1000000), (91, 1000000)]),
    ([(1, 0, 729)], [(0, 0), (0, 0), (0, 0), (0, 0), (2, 2), (1, 1)], [], [], [(90, 1000000), (91, 1000000)]),
    ([(1, 0, 92)], [(0, 0), (0, 0), (0, 0), (0, 0), (2, 2), (0, 0)], [], [], [(90, 1000000), (91, 1000000)]),
    ([(1, 0, 729)], [(0, 0), (0, 0), (0, 0), (0, 0), (1, 1), (1, 1)], [], [], [(90, 1000000), (91, 1000000)]),
    ([(1, 0, 25)], [(0, 0), (0, 0), (0, 0), (0, 0), (1, 1), (0, 0)], [], [], [(90, 1000000), (91, 1000000)]),
    ([(1, 0, 1)], [(0, 0), (0, 0), (0, 0), (0, 0), (0, 0), (1, 1)], [], [], [(90, 1000000), (91, 1000000)]),
    ([(1, 0, 0)], [(0, 0), (0, 0), (0, 0), (0, 0), (0, 0), (0, 0)], [], [], [(90, 1000000), (91, 1000000)])])
def nxo_bolder_1 : List ab_OU := [([], [(0, 0), ((-2147483648), (-1)), ((-2147483648), 2147483647), (0, 0), ((-2147483648), 2147483647), ((-2147483648), 2147483647)], [], [], []),
    ([], [(0, 0), (3, 2147483647), ((-2147483648), 2147483647), (0, 0), ((-2147483648), 2147483647), ((-2147483648), 2147483647)], [], [], []),
    ([], [(0, 0), (0, 2), ((-2147483648), (-1)), (0, 0), ((-2147483648), 2147483647), ((-2147483648), 2147483647)], [], [], []),
    ([], [(0, 0), (0, 2), (3, 2147483647), (0, 0), ((-2147483648), 2147483647), ((-2147483648), 2147483647)], [], [], []),
    ([], [(0, 0), (0, 2), (0, 2), (0, 0), ((-2147483648), (-1)), ((-2147483648), 2147483647)], [], [], []),
    ([], [(0, 0), (0, 2), (0, 2), (0, 0), (10, 2147483647), ((-2147483648), 2147483647)], [], [], []),
    ([], [(0, 0), (0, 2), (0, 2), (0, 0), (0, 9), ((-2147483648), (-1))], [], [], []),
    ([], [(0, 0), (0, 2), (0, 2), (0, 0), (0, 9), (2, 2147483647)], [], [], [])]
def nxe_bolder_1_0 : ab_ND := (37, ([(0, (2, 0, 0)), (1, (0, 1, 0)), (2, (0, 2, 0)), (3, (0, 3, 0)), (4, (0, 4, 0)), (5, (0, 5, 0))], [], [(0, 0), ((-2147483648), (-1)), ((-2147483648), 2147483647), (0, 0), ((-2147483648), 2147483647), ((-2147483648), 2147483647)], [], [], []), ((0, [], []), (0, [], []), (0, [], [])))
def nxe_bolder_1_1 : ab_ND := (37, ([(0, (2, 0, 0)), (1, (0, 1, 0)), (2, (0, 2, 0)), (3, (0, 3, 0)), (4, (0, 4, 0)), (5, (0, 5, 0))], [], [(0, 0), (3, 2147483647), ((-2147483648), 2147483647), (0, 0), ((-2147483648), 2147483647), ((-2147483648), 2147483647)], [], [], []), ((0, [], []), (0, [], []), (0, [], [])))
def nxe_bolder_1_2 : ab_ND := (37, ([(0, (2, 0, 0)), (1, (0, 1, 0)), (2, (0, 2, 0)), (3, (0, 3, 0)), (4, (0, 4, 0)), (5, (0, 5, 0))], [], [(0, 0), (0, 2), ((-2147483648), (-1)), (0, 0), ((-2147483648), 2147483647), ((-2147483648), 2147483647)], [], [], []), ((0, [], []), (0, [], []), (0, [], [])))
def nxe_bolder_1_3 : ab_ND := (37, ([(0, (2, 0, 0)), (1, (0, 1, 0)), (2, (0, 2, 0)), (3, (0, 3, 0)), (4, (0, 4, 0)), (5, (0, 5, 0))], [], [(0, 0), (0, 2), (3, 2147483647), (0, 0), ((-2147483648), 2147483647), ((-2147483648), 2147483647)], [], [], []), ((0, [], []), (0, [], []), (0, [], [])))
def nxe_bolder_1_4 : ab_ND := (37, ([(0, (2, 0, 0)), (1, (0, 1, 0)), (2, (0, 2, 0)), (3, (0, 3, 0)), (4, (0, 4, 0)), (5, (0, 5, 0))], [], [(0, 0), (0, 2), (0, 2), (0, 0), ((-2147483648), (-1)), ((-2147483648), 2147483647)], [], [], []), ((0, [], []), (0, [], []), (0, [], [])))
def nxe_bolder_1_5 : ab_ND := (37, ([(0, (2, 0, 0)), (1, (0, 1, 0)), (2, (0, 2, 0)), (3, (0, 3, 0)), (4, (0, 4, 0)), (5, (0, 5, 0))], [], [(0, 0), (0, 2), (0, 2), (0, 0), (10, 2147483647), ((-2147483648), 2147483647)], [], [], []), ((0, [], []), (0, [], []), (0, [], [])))
def nxe_bolder_1_6 : ab_ND := (37, ([(0, (2, 0, 0)), (1, (0, 1, 0)), (2, (0, 2, 0)), (3, (0, 3, 0)), (4, (0, 4, 0)), (5, (0, 5, 0))], [], [(0, 0), (0, 2), (0, 2), (0, 0), (0, 9), ((-2147483648), (-1))], [], [], []), ((0, [], []), (0, [], []), (0, [], [])))
def nxe_bolder_1_7 : ab_ND := (37, ([(0, (2, 0, 0)), (1, (0, 1, 0)), (2, (0, 2, 0)), (3, (0, 3, 0)), (4, (0, 4, 0)), (5, (0, 5, 0))], [], [(0, 0), (0, 2), (0, 2), (0, 0), (0, 9), (2, 2147483647)], [], [], []), ((0, [], []), (0, [], []), (0, [], [])))
def nxm_bolder_1_0 : ab_ND := (0, (ab_en0 0 nxd_bolder_1.1, [], nxd_bolder_1.2.1, nxd_bolder_1.2.2.1, nxd_bolder_1.2.2.2.1, []), ((9000000000000000000000, [], []), (0, [], []), (0, [], [])))
def nxm_bolder_1_1 : ab_ND := (48, ([(0, (2, 0, 0)), (1, (0, 0, 2)), (2, (0, 0, 2)), (3, (0, 0, 0)), (4, (0, 4, 0)), (5, (0, 5, 0))], [(2, 0, 0)], [(0, 0), (2, 2), (2, 2), (0, 0), (0, 9), (0, 1)], [], [], []), ((0, [], []), (0, [], []), (0, [], [])))
def nxm_bolder_1_2 : ab_ND := (48, ([(0, (2, 0, 0)), (1, (0, 0, 2)), (2, (0, 0, 1)), (3, (0, 0, 0)), (4, (0, 4, 0)), (5, (0, 5, 0))], [(2, 0, 0)], [(0, 0), (2, 2), (1, 1), (0, 0), (0, 9), (0, 1)], [], [], []), ((1000000000000000000000, [], []), (0, [], []), (0, [], [])))
def nxm_bolder_1_3 : ab_ND := (48, ([(0, (2, 0, 0)), (1, (0, 0, 2)), (2, (0, 0, 0)), (3, (0, 0, 0)), (4, (0, 4, 0)), (5, (0, 5, 0))], [(2, 0, 0)], [(0, 0), (2, 2), (0, 0), (0, 0), (0, 9), (0, 1)], [], [], []), ((2000000000000000000000, [], []), (0, [], []), (0, [], [])))
def nxm_bolder_1_4 : ab_ND := (48, ([(0, (2, 0, 0)), (1, (0, 0, 1)), (2, (0, 0, 2)), (3, (0, 0, 0)), (4, (0, 4, 0)), (5, (0, 5, 0))], [(2, 0, 0)], [(0, 0), (1, 1), (2, 2), (0, 0), (0, 9), (0, 1)], [], [], []), ((3000000000000000000000, [], []), (0, [], []), (0, [], [])))
def nxm_bolder_1_5 : ab_ND := (48, ([(0, (2, 0, 0)), (1, (0, 0, 1)), (2, (0, 0, 1)), (3, (0, 0, 0)), (4, (0, 4, 0)), (5, (0, 5, 0))], [(2, 0, 0)], [(0, 0), (1, 1), (1, 1), (0, 0), (0, 9), (0, 1)], [], [], []), ((4000000000000000000000, [], []), (0, [], []), (0, [], [])))
def nxm_bolder_1_6 : ab_ND := (48, ([(0, (2, 0, 0)), (1, (0, 0, 1)), (2, (0, 0, 0)), (3, (0, 0, 0)), (4, (0, 4, 0)), (5, (0, 5, 0))], [(2, 0, 0)], [(0, 0), (1, 1), (0, 0), (0, 0), (0, 9), (0, 1)], [], [], []), ((5000000000000000000000, [], []), (0, [], []), (0, [], [])))
def nxm_bolder_1_7 : ab_ND := (48, ([(0, (2, 0, 0)), (1, (0, 0, 0)), (2, (0, 0, 2)), (3, (0, 0, 0)), (4, (0, 4, 0)), (5, (0, 5, 0))], [(2, 0, 0)], [(0, 0), (0, 0), (2, 2), (0, 0), (0, 9), (0, 1)], [], [], []), ((6000000000000000000000, [], []), (0, [], []), (0, [], [])))
def nxm_bolder_1_8 : ab_ND := (48, ([(0, (2, 0, 0)), (1, (0, 0, 0)), (2, (0, 0, 1)), (3, (0, 0, 0)), (4, (0, 4, 0)), (5, (0, 5, 0))], [(2, 0, 0)], [(0, 0), (0, 0), (1, 1), (0, 0), (0, 9), (0, 1)], [], [], []), ((7000000000000000000000, [], []), (0, [], []), (0, [], [])))
def nxm_bolder_1_9 : ab_ND := (48, ([(0, (2, 0, 0)), (1, (0, 0, 0)), (2, (0, 0, 0)), (3, (0, 0, 0)), (4, (0, 4, 0)), (5, (0, 5, 0))], [(2, 0, 0)], [(0, 0), (0, 0), (0, 0), (0, 0), (0, 9), (0, 1)], [], [], []), ((8000000000000000000000, [], []), (0, [], []), (0, [], [])))
def nxn_bolder_1 : List ab_ND := [nxm_bolder_1_0, nxm_bolder_1_1, nxm_bolder_1_2, nxm_bolder_1_3, nxm_bolder_1_4, nxm_bolder_1_5, nxm_bolder_1_6, nxm_bolder_1_7, nxm_bolder_1_8, nxm_bolder_1_9]
def nxk_bolder_1 : ab_KS := [(136, 0, le_736), (81, 0, le_737), (55, 0, le_738), (138, 1, le_747), (138, 1, le_753), (138, 1, le_762), (138, 1, le_766), (138, 1, le_768), (138, 1, le_776), (138, 1, le_780), (138, 1, le_782), (137, 2, le_785), (193, 0, le_786), (193, 0, le_787), (137, 2, le_788), (193, 0, le_789), (193, 0, le_790), (137, 2, le_791), (193, 0, le_792), (193, 0, le_793), (137, 2, le_794), (193, 0, le_795), (193, 0, le_796), (137, 2, le_797), (193, 0, le_798), (193, 0, le_799), (137, 2, le_800), (193, 0, le_801), (193, 0, le_802), (137, 2, le_803), (193, 0, le_804), (193, 0, le_805), (137, 2, le_806), (193, 0, le_807), (193, 0, le_808), (137, 2, le_809), (193, 0, le_810), (193, 0, le_811), (137, 2, le_812), (193, 0, le_813), (193, 0, le_814), (193, 0, le_815), (193, 0, le_816), (193, 0, le_817), (193, 0, le_818), (193, 0, le_819), (193, 0, le_820), (193, 0, le_821), (193, 0, le_822), (193, 0, le_823), (193, 0, le_824), (193, 0, le_825), (193, 0, le_826), (193, 0, le_827), (193, 0, le_828), (193, 0, le_829), (193, 0, le_830), (193, 0, le_831), (193, 0, le_832), (193, 0, le_833), (193, 0, le_834), (193, 0, le_835), (193, 0, le_836), (193, 0, le_837), (193, 0, le_838), (138, 1, le_840), (193, 0, le_841), (193, 0, le_842), (193, 0, le_843), (193, 0, le_844), (193, 0, le_845), (193, 0, le_846), (193, 0, le_847), (193, 0, le_848), (193, 0, le_849), (193, 0, le_850), (193, 0, le_851), (193, 0, le_852), (193, 0, le_853), (193, 0, le_854), (193, 0, le_855), (193, 0, le_856)]
theorem nxc_bolder_1_0 : ab_cn vwCl nn_T nn_C nn_sh nn_MT (nn_KI1.map (fun x => x.1)) (nn_KJ1.map (fun x => x.1)) (nn_PF1.map (fun x => x.1)) nn_kd (nn_PS1.map (fun x => x.1)) (nn_PM1.map (fun x => x.1)) nxk_bolder_1 3 0 nn_dt200 6 nxd_bolder_1.2.1.length nxd_bolder_1.2.2.2.2 2 [] [37, 47, 48] [(47, [(0, 3, 0, 0), (0, 1, 0, 0), (0, 2, 0, 0)]), (48, [(0, 4, 0, 0), (0, 5, 0, 0)])] [nxe_bolder_1_0, nxe_bolder_1_1, nxe_bolder_1_2, nxe_bolder_1_3, nxe_bolder_1_4, nxe_bolder_1_5, nxe_bolder_1_6, nxe_bolder_1_7] nxn_bolder_1 21 nxm_bolder_1_0 = true := by decide +kernel
theorem nxc_bolder_1_1 : ab_cn vwCl nn_T nn_C nn_sh nn_MT (nn_KI1.map (fun x => x.1)) (nn_KJ1.map (fun x => x.1)) (nn_PF1.map (fun x => x.1)) nn_kd (nn_PS1.map (fun x => x.1)) (nn_PM1.map (fun x => x.1)) nxk_bolder_1 3 0 nn_dt200 6 nxd_bolder_1.2.1.length nxd_bolder_1.2.2.2.2 2 [] [37, 47, 48] [(47, [(0, 3, 0, 0), (0, 1, 0, 0), (0, 2, 0, 0)]), (48, [(0, 4, 0, 0), (0, 5, 0, 0)])] [nxe_bolder_1_0, nxe_bolder_1_1, nxe_bolder_1_2, nxe_bolder_1_3, nxe_bolder_1_4, nxe_bolder_1_5, nxe_bolder_1_6, nxe_bolder_1_7] nxn_bolder_1 21 nxm_bolder_1_1 = true := by decide +kernel
theorem nxc_bolder_1_2 : ab_cn vwCl nn_T nn_C nn_sh nn_MT (nn_KI1.map (fun x => x.1)) (nn_KJ1.map (fun x => x.1)) (nn_PF1.map (fun x => x.1)) nn_kd (nn_PS1.map (fun x => x.1)) (nn_PM1.map (fun x => x.1)) nxk_bolder_1 3 0 nn_dt200 6 nxd_bolder_1.2.1.length nxd_bolder_1.2.2.2.2 2 [] [37, 47, 48] [(47, [(0, 3, 0, 0), (0, 1, 0, 0), (0, 2, 0, 0)]), (48, [(0, 4, 0, 0), (0, 5, 0, 0)])] [nxe_bolder_1_0, nxe_bolder_1_1, nxe_bolder_1_2, nxe_bolder_1_3, nxe_bolder_1_4, nxe_bolder_1_5, nxe_bolder_1_6, nxe_bolder_1_7] nxn_bolder_1 21 nxm_bolder_1_2 = true := by decide +kernel
theorem nxc_bolder_1_3 : ab_cn vwCl nn_T nn_C nn_sh nn_MT (nn_KI1.map (fun x => x.1)) (nn_KJ1.map (fun x => x.1)) (nn_PF1.map (fun x => x.1)) nn_kd (nn_PS1.map (fun x => x.1)) (nn_PM1.map (fun x => x.1)) nxk_bolder_1 3 0 nn_dt200 6 nxd_bolder_1.2.1.length nxd_bolder_1.2.2.2.2 2 [] [37, 47, 48] [(47, [(0, 3, 0, 0), (0, 1, 0, 0), (0, 2, 0, 0)]), (48, [(0, 4, 0, 0), (0, 5, 0, 0)])] [nxe_bolder_1_0, nxe_bolder_1_1, nxe_bolder_1_2, nxe_bolder_1_3, nxe_bolder_1_4, nxe_bolder_1_5, nxe_bolder_1_6, nxe_bolder_1_7] nxn_bolder_1 21 nxm_bolder_1_3 = true := by decide +kernel
theorem nxc_bolder_1_4 : ab_cn vwCl nn_T nn_C nn_sh nn_MT (nn_KI1.map (fun x => x.1)) (nn_KJ1.map (fun x => x.1)) (nn_PF1.map (fun x => x.1)) nn_kd (nn_PS1.map (fun x => x.1)) (nn_PM1.map (fun x => x.1)) nxk_bolder_1 3 0 nn_dt200 6 nxd_bolder_1.2.1.length nxd_bolder_1.2.2.2.2 2 [] [37, 47, 48] [(47, [(0, 3, 0, 0), (0, 1, 0, 0), (0, 2, 0, 0)]), (48, [(0, 4, 0, 0), (0, 5, 0, 0)])] [nxe_bolder_1_0, nxe_bolder_1_1, nxe_bolder_1_2, nxe_bolder_1_3, nxe_bolder_1_4, nxe_bolder_1_5, nxe_bolder_1_6, nxe_bolder_1_7] nxn_bolder_1 21 nxm_bolder_1_4 = true := by decide +kernel
theorem nxc_bolder_1_5 : ab_cn vwCl nn_T nn_C nn_sh nn_MT (nn_KI1.map (fun x => x.1)) (nn_KJ1.map (fun x => x.1)) (nn_PF1.map (fun x => x.1)) nn_kd (nn_PS1.map (fun x => x.1)) (nn_PM1.map (fun x => x.1)) nxk_bolder_1 3 0 nn_dt200 6 nxd_bolder_1.2.1.length nxd_bolder_1.2.2.2.2 2 [] [37, 47, 48] [(47, [(0, 3, 0, 0), (0, 1, 0, 0), (0, 2, 0, 0)]), (48, [(0, 4, 0, 0), (0, 5, 0, 0)])] [nxe_bolder_1_0, nxe_bolder_1_1, nxe_bolder_1_2, nxe_bolder_1_3, nxe_bolder_1_4, nxe_bolder_1_5, nxe_bolder_1_6, nxe_bolder_1_7] nxn_bolder_1 21 nxm_bolder_1_5 = true := by decide +kernel
theorem nxc_bolder_1_6 : ab_cn vwCl nn_T nn_C nn_sh nn_MT (nn_KI1.map (fun x => x.1)) (nn_KJ1.map (fun x => x.1)) (nn_PF1.map (fun x => x.1)) nn_kd (nn_PS1.map (fun x => x.1)) (nn_PM1.map (fun x => x.1)) nxk_bolder_1 3 0 nn_dt200 6 nxd_bolder_1.2.1.length nxd_bolder_1.2.2.2.2 2 [] [37, 47, 48] [(47, [(0, 3, 0, 0), (0, 1, 0, 0), (0, 2, 0, 0)]), (48, [(0, 4, 0, 0), (0, 5, 0, 0)])] [nxe_bolder_1_0, nxe_bolder_1_1, nxe_bolder_1_2, nxe_bolder_1_3, nxe_bolder_1_4, nxe_bolder_1_5, nxe_bolder_1_6, nxe_bolder_1_7] nxn_bolder_1 21 nxm_bolder_1_6 = true := by decide +kernel
theorem nxc_bolder_1_7 : ab_cn vwCl nn_T nn_C nn_sh nn_MT (nn_KI1.map (fun x => x.1)) (nn_KJ1.map (fun x => x.1)) (nn_PF1.map (fun x => x.1)) nn_kd (nn_PS1.map (fun x => x.1)) (nn_PM1.map (fun x => x.1)) nxk_bolder_1 3 0 nn_dt200 6 nxd_bolder_1.2.1.length nxd_bolder_1.2.2.2.2 2 [] [37, 47, 48] [(47, [(0, 3, 0, 0), (0, 1, 0, 0), (0, 2, 0, 0)]), (48, [(0, 4, 0, 0), (0, 5, 0, 0)])] [nxe_bolder_1_0, nxe_bolder_1_1, nxe_bolder_1_2, nxe_bolder_1_3, nxe_bolder_1_4, nxe_bolder_1_5, nxe_bolder_1_6, nxe_bolder_1_7] nxn_bolder_1 21 nxm_bolder_1_7 = true := by decide +kernel
theorem nxc_bolder_1_8 : ab_cn vwCl nn_T nn_C nn_sh nn_MT (nn_KI1.map (fun x => x.1)) (nn_KJ1.map (fun x => x.1)) (nn_PF1.map (fun x => x.1)) nn_kd (nn_PS1.map (fun x => x.1)) (nn_PM1.map (fun x => x.1)) nxk_bolder_1 3 0 nn_dt200 6 nxd_bolder_1.2.1.length nxd_bolder_1.2.2.2.2 2 [] [37, 47, 48] [(47, [(0, 3, 0, 0), (0, 1, 0, 0), (0, 2, 0, 0)]), (48, [(0, 4, 0, 0), (0, 5, 0, 0)])] [nxe_bolder_1_0, nxe_bolder_1_1, nxe_bolder_1_2, nxe_bolder_1_3, nxe_bolder_1_4, nxe_bolder_1_5, nxe_bolder_1_6, nxe_bolder_1_7] nxn_bolder_1 21 nxm_bolder_1_8 = true := by decide +kernel
theorem nxc_bolder_1_9 : ab_cn vwCl nn_T nn_C nn_sh nn_MT (nn_KI1.map (fun x => x.1)) (nn_KJ1.map (fun x => x.1)) (nn_PF1.map (fun x => x.1)) nn_kd (nn_PS1.map (fun x => x.1)) (nn_PM1.map (fun x => x.1)) nxk_bolder_1 3 0 nn_dt200 6 nxd_bolder_1.2.1.length nxd_bolder_1.2.2.2.2 2 [] [37, 47, 48] [(47, [(0, 3, 0, 0), (0, 1, 0, 0), (0, 2, 0, 0)]), (48, [(0, 4, 0, 0), (0, 5, 0, 0)])] [nxe_bolder_1_0, nxe_bolder_1_1, nxe_bolder_1_2, nxe_bolder_1_3, nxe_bolder_1_4, nxe_bolder_1_5, nxe_bolder_1_6, nxe_bolder_1_7] nxn_bolder_1 21 nxm_bolder_1_9 = true := by decide +kernel
theorem nxc_bolder_1 : nxn_bolder_1.all (ab_cn vwCl nn_T nn_C nn_sh nn_MT (nn_KI1.map (fun x => x.1)) (nn_KJ1.map (fun x => x.1)) (nn_PF1.map (fun x => x.1)) nn_kd (nn_PS1.map (fun x => x.1)) (nn_PM1.map (fun x => x.1)) nxk_bolder_1 3 0 nn_dt200 6 nxd_bolder_1.2.1.length nxd_bolder_1.2.2.2.2 2 [] [37, 47, 48] [(47, [(0, 3, 0, 0), (0, 1, 0, 0), (0, 2, 0, 0)]), (48, [(0, 4, 0, 0), (0, 5, 0, 0)])] [nxe_bolder_1_0, nxe_bolder_1_1, nxe_bolder_1_2, nxe_bolder_1_3, nxe_bolder_1_4, nxe_bolder_1_5, nxe_bolder_1_6, nxe_bolder_1_7] nxn_bolder_1 21) = true := List.all_eq_true.mpr (List.forall_mem_cons.mpr ⟨nxc_bolder_1_0, List.forall_mem_cons.mpr ⟨nxc_bolder_1_1, List.forall_mem_cons.mpr ⟨nxc_bolder_1_2, List.forall_mem_cons.mpr ⟨nxc_bolder_1_3, List.forall_mem_cons.mpr ⟨nxc_bolder_1_4, List.forall_mem_cons.mpr ⟨nxc_bolder_1_5, List.forall_mem_cons.mpr ⟨nxc_bolder_1_6, List.forall_mem_cons.mpr ⟨nxc_bolder_1_7, List.forall_mem_cons.mpr ⟨nxc_bolder_1_8, List.forall_mem_cons.mpr ⟨nxc_bolder_1_9, fun _ h => absurd h List.not_mem_nil⟩⟩⟩⟩⟩⟩⟩⟩⟩⟩)
set_option maxHeartbeats 4000000 in
theorem nxt_bolder_1 (l : Launch) (htr : l.stackTraces = false) (cy : Nat → ClassId) (ad wr cr : Nat → Nat) (D : va_G) (hinj : nn_inj ad) : nx_H l cy ad wr cr D (200, 3, nxd_bolder_1, nxo_bolder_1) := by
  refine nx_holdW (mr := (⟨"NameNotes", "bolder", "(IIIII)J"⟩, prog_1_method_37_code, 6, (Option.some Jvm.ClassFile.FieldType.long), 5, true, 2)) (dt := nn_dt200) (KS := nxk_bolder_1) htr hinj rfl rfl (by decide +kernel) nn_KI1_ok nn_KJ1_ok nn_PF1_ok nn_PS1_ok nn_PM1_ok (List.forall_mem_cons.mpr ⟨lf_736 l cy ad wr cr D hinj, List.forall_mem_cons.mpr ⟨lf_737 l cy ad wr cr D hinj, List.forall_mem_cons.mpr ⟨lf_738 l cy ad wr cr D hinj, List.forall_mem_cons.mpr ⟨lf_747 l cy ad wr cr D hinj, List.forall_mem_cons.mpr ⟨lf_753 l cy ad wr cr D hinj, List.forall_mem_cons.mpr ⟨lf_762 l cy ad wr cr D hinj, List.forall_mem_cons.mpr ⟨lf_766 l cy ad wr cr D hinj, List.forall_mem_cons.mpr ⟨lf_768 l cy ad wr cr D hinj, List.forall_mem_cons.mpr ⟨lf_776 l cy ad wr cr D hinj, List.forall_mem_cons.mpr ⟨lf_780 l cy ad wr cr D hinj, List.forall_mem_cons.mpr ⟨lf_782 l cy ad wr cr D hinj, List.forall_mem_cons.mpr ⟨lf_785 l cy ad wr cr D hinj, List.forall_mem_cons.mpr ⟨lf_786 l cy ad wr cr D hinj, List.forall_mem_cons.mpr ⟨lf_787 l cy ad wr cr D hinj, List.forall_mem_cons.mpr ⟨lf_788 l cy ad wr cr D hinj, List.forall_mem_cons.mpr ⟨lf_789 l cy ad wr cr D hinj, List.forall_mem_cons.mpr ⟨lf_790 l cy ad wr cr D hinj, List.forall_mem_cons.mpr ⟨lf_791 l cy ad wr cr D hinj, List.forall_mem_cons.mpr ⟨lf_792 l cy ad wr cr D hinj, List.forall_mem_cons.mpr ⟨lf_793 l cy ad wr cr D hinj, List.forall_mem_cons.mpr ⟨lf_794 l cy ad wr cr D hinj, List.forall_mem_cons.mpr ⟨lf_795 l cy ad wr cr D hinj, List.forall_mem_cons.mpr ⟨lf_796 l cy ad wr cr D hinj, List.forall_mem_cons.mpr ⟨lf_797 l cy ad wr cr D hinj, List.forall_mem_cons.mpr ⟨lf_798 l cy ad wr cr D hinj, List.forall_mem_cons.mpr ⟨lf_799 l cy ad wr cr D hinj, List.forall_mem_cons.mpr ⟨lf_800 l cy ad wr cr D hinj, List.forall_mem_cons.mpr ⟨lf_801 l cy ad wr cr D hinj, List.forall_mem_cons.mpr ⟨lf_802 l cy ad wr cr D hinj, List.forall_mem_cons.mpr ⟨lf_803 l cy ad wr cr D hinj, List.forall_mem_cons.mpr ⟨lf_804 l cy ad wr cr D hinj, List.forall_mem_cons.mpr ⟨lf_805 l cy ad wr cr D hinj, List.forall_mem_cons.mpr ⟨lf_806 l cy ad wr cr D hinj, List.forall_mem_cons.mpr ⟨lf_807 l cy ad wr cr D hinj, List.forall_mem_cons.mpr ⟨lf_808 l cy ad wr cr D hinj, List.forall_mem_cons.mpr ⟨lf_809 l cy ad wr cr D hinj, List.forall_mem_cons.mpr ⟨lf_810 l cy ad wr cr D hinj, List.forall_mem_cons.mpr ⟨lf_811 l cy ad wr cr D hinj, List.forall_mem_cons.mpr ⟨lf_812 l cy ad wr cr D hinj, List.forall_mem_cons.mpr ⟨lf_813 l cy ad wr cr D hinj, List.forall_mem_cons.mpr ⟨lf_814 l cy ad wr cr D hinj, List.forall_mem_cons.mpr ⟨lf_815 l cy ad wr cr D hinj, List.forall_mem_cons.mpr ⟨lf_816 l cy ad wr cr D hinj, List.forall_mem_cons.mpr ⟨lf_817 l cy ad wr cr D hinj, List.forall_mem_cons.mpr ⟨lf_818 l cy ad wr cr D hinj, List.forall_mem_cons.mpr ⟨lf_819 l cy ad wr cr D hinj, List.forall_mem_cons.mpr ⟨lf_820 l cy ad wr cr D hinj, List.forall_mem_cons.mpr ⟨lf_821 l cy ad wr cr D hinj, List.forall_mem_cons.mpr ⟨lf_822 l cy ad wr cr D hinj, List.forall_mem_cons.mpr ⟨lf_823 l cy ad wr cr D hinj, List.forall_mem_cons.mpr ⟨lf_824 l cy ad wr cr D hinj, List.forall_mem_cons.mpr ⟨lf_825 l cy ad wr cr D hinj, List.forall_mem_cons.mpr ⟨lf_826 l cy ad wr cr D hinj, List.forall_mem_cons.mpr ⟨lf_827 l cy ad wr cr D hinj, List.forall_mem_cons.mpr ⟨lf_828 l cy ad wr cr D hinj, List.forall_mem_cons.mpr ⟨lf_829 l cy ad wr cr D hinj, List.forall_mem_cons.mpr ⟨lf_830 l cy ad wr cr D hinj, List.forall_mem_cons.mpr ⟨lf_831 l cy ad wr cr D hinj, List.forall_mem_cons.mpr ⟨lf_832 l cy ad wr cr D hinj, List.forall_mem_cons.mpr ⟨lf_833 l cy ad wr cr D hinj, List.forall_mem_cons.mpr ⟨lf_834 l cy ad wr cr D hinj, List.forall_mem_cons.mpr ⟨lf_835 l cy ad wr cr D hinj, List.forall_mem_cons.mpr ⟨lf_836 l cy ad wr cr D hinj, List.forall_mem_cons.mpr ⟨lf_837 l cy ad wr cr D hinj, List.forall_mem_cons.mpr ⟨lf_838 l cy ad wr cr D hinj, List.forall_mem_cons.mpr ⟨lf_840 l cy ad wr cr D hinj, List.forall_mem_cons.mpr ⟨lf_841 l cy ad wr cr D hinj, List.forall_mem_cons.mpr ⟨lf_842 l cy ad wr cr D hinj, List.forall_mem_cons.mpr ⟨lf_843 l cy ad wr cr D hinj, List.forall_mem_cons.mpr ⟨lf_844 l cy ad wr cr D hinj, List.forall_mem_cons.mpr ⟨lf_845 l cy ad wr cr D hinj, List.forall_mem_cons.mpr ⟨lf_846 l cy ad wr cr D hinj, List.forall_mem_cons.mpr ⟨lf_847 l cy ad wr cr D hinj, List.forall_mem_cons.mpr ⟨lf_848 l cy ad wr cr D hinj, List.forall_mem_cons.mpr ⟨lf_849 l cy ad wr cr D hinj, List.forall_mem_cons.mpr ⟨lf_850 l cy ad wr cr D hinj, List.forall_mem_cons.mpr ⟨lf_851 l cy ad wr cr D hinj, List.forall_mem_cons.mpr ⟨lf_852 l cy ad wr cr D hinj, List.forall_mem_cons.mpr ⟨lf_853 l cy ad wr cr D hinj, List.forall_mem_cons.mpr ⟨lf_854 l cy ad wr cr D hinj, List.forall_mem_cons.mpr ⟨lf_855 l cy ad wr cr D hinj, List.forall_mem_cons.mpr ⟨lf_856 l cy ad wr cr D hinj, fun _ h => absurd h List.not_mem_nil⟩⟩⟩⟩⟩⟩⟩⟩⟩⟩⟩⟩⟩⟩⟩⟩⟩⟩⟩⟩⟩⟩⟩⟩⟩⟩⟩⟩⟩⟩⟩⟩⟩⟩⟩⟩⟩⟩⟩⟩⟩⟩⟩⟩⟩⟩⟩⟩⟩⟩⟩⟩⟩⟩⟩⟩⟩⟩⟩⟩⟩⟩⟩⟩⟩⟩⟩⟩⟩⟩⟩⟩⟩⟩⟩⟩⟩⟩⟩⟩⟩⟩) ?_
  intro p e s m below meth c R Q ρ σ hE hK hsy hP hRT hTH
  refine ab_entry (lev := 3) (sp := []) (HD := [37, 47, 48]) (HN := [(47, [(0, 3, 0, 0), (0, 1, 0, 0), (0, 2, 0, 0)]), (48, [(0, 4, 0, 0), (0, 5, 0, 0)])]) (EX := [nxe_bolder_1_0, nxe_bolder_1_1, nxe_bolder_1_2, nxe_bolder_1_3, nxe_bolder_1_4, nxe_bolder_1_5, nxe_bolder_1_6, nxe_bolder_1_7]) (NS := nxn_bolder_1) (fuel := 21) (mu := ((9000000000000000000000, [], []), (0, [], []), (0, [], []))) hE (by decide +kernel) hK hsy hP List.mem_cons_self hRT ?_ (fun nd hnd => List.all_eq_true.mp nxc_bolder_1 nd hnd)
  intro nd hnd ρ2 σ2 H locs ls st hG
  rcases List.mem_cons.mp hnd with rfl | hnd
  · exact hTH 37 _ ρ2 σ2 H locs ls st 213 "no such ones" 5 (by decide +kernel) rfl (by decide +kernel) (show decode prog_1_method_37_code 37 = .ok (.new 211, 3) by decide +kernel) (show decode prog_1_method_37_code 40 = .ok (.dup, 1) by decide +kernel) (Or.inl ⟨(show decode prog_1_method_37_code 41 = .ok (.ldc 213, 2) by decide +kernel), (show decode prog_1_method_37_code 43 = .ok (.invokespecial 215, 3) by decide +kernel), (show decode prog_1_method_37_code 46 = .ok (.athrow, 1) by decide +kernel)⟩) hG
  rcases List.mem_cons.mp hnd with rfl | hnd
  · exact hTH 37 _ ρ2 σ2 H locs ls st 213 "no such ones" 5 (by decide +kernel) rfl (by decide +kernel) (show decode prog_1_method_37_code 37 = .ok (.new 211, 3) by decide +kernel) (show decode prog_1_method_37_code 40 = .ok (.dup, 1) by decide +kernel) (Or.inl ⟨(show decode prog_1_method_37_code 41 = .ok (.ldc 213, 2) by decide +kernel), (show decode prog_1_method_37_code 43 = .ok (.invokespecial 215, 3) by decide +kernel), (show decode prog_1_method_37_code 46 = .ok (.athrow, 1) by decide +kernel)⟩) hG
  rcases List.mem_cons.mp hnd with rfl | hnd
  · exact hTH 37 _ ρ2 σ2 H locs ls st 213 "no such ones" 5 (by decide +kernel) rfl (by decide +kernel) (show decode prog_1_method_37_code 37 = .ok (.new 211, 3) by decide +kernel) (show decode prog_1_method_37_code 40 = .ok (.dup, 1) by decide +kernel) (Or.inl ⟨(show decode prog_1_method_37_code 41 = .ok (.ldc 213, 2) by decide +kernel), (show decode prog_1_method_37_code 43 = .ok (.invokespecial 215, 3) by decide +kernel), (show decode prog_1_method_37_code 46 = .ok (.athrow, 1) by decide +kernel)⟩) hG
  rcases List.mem_cons.mp hnd with rfl | hnd
  · exact hTH 37 _ ρ2 σ2 H locs ls st 213 "no such ones" 5 (by decide +kernel) rfl (by decide +kernel) (show decode prog_1_method_37_code 37 = .ok (.new 211, 3) by decide +kernel) (show decode prog_1_method_37_code 40 = .ok (.dup, 1) by decide +kernel) (Or.inl ⟨(show decode prog_1_method_37_code 41 = .ok (.ldc 213, 2) by decide +kernel), (show decode prog_1_method_37_code 43 = .ok (.invokespecial 215, 3) by decide +kernel), (show decode prog_1_method_37_code 46 = .ok (.athrow, 1) by decide +kernel)⟩) hG
  rcases List.mem_cons.mp hnd with rfl | hnd
  · exact hTH 37 _ ρ2 σ2 H locs ls st 213 "no such ones" 5 (by decide +kernel) rfl (by decide +kernel) (show decode prog_1_method_37_code 37 = .ok (.new 211, 3) by decide +kernel) (show decode prog_1_method_37_code 40 = .ok (.dup, 1) by decide +kernel) (Or.inl ⟨(show decode prog_1_method_37_code 41 = .ok (.ldc 213, 2) by decide +kernel), (show decode prog_1_method_37_code 43 = .ok (.invokespecial 215, 3) by decide +kernel), (show decode prog_1_method_37_code 46 = .ok (.athrow, 1) by decide +kernel)⟩) hG
  rcases List.mem_cons.mp hnd with rfl | hnd
  · exact hTH 37 _ ρ2 σ2 H locs ls st 213 "no such ones" 5 (by decide +kernel) rfl (by decide +kernel) (show decode prog_1_method_37_code 37 = .ok (.new 211, 3) by decide +kernel) (show decode prog_1_method_37_code 40 = .ok (.dup, 1) by decide +kernel) (Or.inl ⟨(show decode prog_1_method_37_code 41 = .ok (.ldc 213, 2) by decide +kernel), (show decode prog_1_method_37_code 43 = .ok (.invokespecial 215, 3) by decide +kernel), (show decode prog_1_method_37_code 46 = .ok (.athrow, 1) by decide +kernel)⟩) hG
  rcases List.mem_cons.mp hnd with rfl | hnd
  · exact hTH 37 _ ρ2 σ2 H locs ls st 213 "no such ones" 5 (by decide +kernel) rfl (by decide +kernel) (show decode prog_1_method_37_code 37 = .ok (.new 211, 3) by decide +kernel) (show decode prog_1_method_37_code 40 = .ok (.dup, 1) by decide +kernel) (Or.inl ⟨(show decode prog_1_method_37_code 41 = .ok (.ldc 213, 2) by decide +kernel), (show decode prog_1_method_37_code 43 = .ok (.invokespecial 215, 3) by decide +kernel), (show decode prog_1_method_37_code 46 = .ok (.athrow, 1) by decide +kernel)⟩) hG
  rcases List.mem_cons.mp hnd with rfl | hnd
  · exact hTH 37 _ ρ2 σ2 H locs ls st 213 "no such ones" 5 (by decide +kernel) rfl (by decide +kernel) (show decode prog_1_method_37_code 37 = .ok (.new 211, 3) by decide +kernel) (show decode prog_1_method_37_code 40 = .ok (.dup, 1) by decide +kernel) (Or.inl ⟨(show decode prog_1_method_37_code 41 = .ok (.ldc 213, 2) by decide +kernel), (show decode prog_1_method_37_code 43 = .ok (.invokespecial 215, 3) by decide +kernel), (show decode prog_1_method_37_code 46 = .ok (.athrow, 1) by decide +kernel)⟩) hG
  exact absurd hnd List.not_mem_nil
/-- NameNotes.bolder_2 -/
def nxd_bolder_2 : ab_CN := ([(2, 0, 0), (0, 1, 0), (0, 2, 0), (0, 3, 0), (0, 4, 0), (0, 5, 0)], [(0, 0), ((-2147483648), 2147483647), ((-2147483648), 2147483647), (1, 1), ((-2147483648), 2147483647), ((-2147483648), 2147483647)], [], [], [([(1, 0, 1)], [(0, 0), (2, 2), (2, 2), (1, 1), (9, 9), (1, 1)], [], [], [(90, 1000000), (91, 1000000)]),
    ([(1, 0, 1)], [(0, 0), (2, 2), (2, 2), (1, 1), (9, 9), (0, 0)], [], [], [(90, 1000000), (91, 1000000)]),
    ([(1, 0, 9)], [(0, 0), (2, 2), (2, 2), (1, 1), (8, 8), (1, 1)], [], [], [(90, 1000000), (91, 1000000)]),
    ([(1, 0, 8)], [(0, 0), (2, 2), (2, 2), (1, 1), (8, 8), (0, 0)], [], [], [(90, 1000000), (91, 1000000)]),
    ([(1, 0, 9)], [(0, 0), (2, 2), (2, 2), (1, 1), (7, 7), (1, 1)], [], [], [(90, 1000000), (91, 1000000)]),
    ([(1, 0, 7)], [(0, 0), (2, 2), (2, 2), (1, 1), (7, 7), (0, 0)], [], [], [(90, 1000000), (91, 1000000)]),
    ([(1, 0, 3)], [(0, 0), (2, 2), (2, 2), (1, 1), (6, 6), (1, 1)], [], [], [(90, 1000000), (91, 1000000)]),
    ([(1, 0, 2)], [(0, 0), (2, 2), (2, 2), (1, 1), (6, 6), (0, 0)], [], [], [(90, 1000000), (91, 1000000)]),
    ([(1, 0, 9)], [(0, 0), (2, 2), (2, 2), (1, 1), (5, 5), (1, 1)], [], [], [(90, 1000000), (91, 1000000)]),
    ([(1, 0, 5)], [(0, 0), (2, 2), (2, 2), (1, 1), (5, 5), (0, 0)], [], [], [(90, 1000000), (91, 1000000)]),
    ([(1, 0, 9)], [(0, 0), (2, 2), (2, 2), (1, 1), (4, 4), (1, 1)], [], [], [(90, 1000000), (91, 1000000)]),
    ([(1, 0, 4)], [(0, 0), (2, 2), (2, 2), (1, 1), (4, 4), (0, 0)], [], [], [(90, 1000000), (91, 1000000)]),
    ([(1, 0, 3)], [(0, 0), (2, 2), (2, 2), (1, 1), (3, 3), (1, 1)], [], [], [(90, 1000000), (91, 1000000)]),
    ([(1, 0, 1)], [(0, 0), (2, 2), (2, 2), (1, 1), (3, 3), (0, 0)], [], [], [(90, 1000000), (91, 1000000)]),
    ([(1, 0, 9)], [(0, 0), (2, 2), (2, 2), (1, 1), (2, 2), (1, 1)], [], [], [(90, 1000000), (91, 1000000)]),
    ([(1, 0, 2)], [(0, 0), (2, 2), (2, 2), (1, 1), (2, 2), (0, 0)], [], [], [(90, 1000000), (91, 1000000)]),
    ([(1, 0, 9)], [(0, 0), (2, 2), (2, 2), (1, 1), (1, 1), (1, 1)], [], [], [(90, 1000000), (91, 1000000)]),
    ([(1, 0, 1)], [(0, 0), (2, 2), (2, 2), (1, 1), (1, 1), (0, 0)], [], [], [(90, 1000000), (91, 1000000)]),
    ([(1, 0, 9)], [(0, 0), (2, 2), (2, 2), (1, 1), (0, 0), (1, 1)], [], [], [(90, 1000000), (91, 1000000)]),
    ([(1, 0, 1)], [(0, 0), (2, 2), (2, 2), (1, 1), (0, 0), (0, 0)], [], [], [(90, 1000000), (91, 1000000)]),
    ([(1, 0, 1)], [(0, 0), (2, 2), (1, 1), (1, 1), (9, 9), (1, 1)], [], [], [(90, 1000000), (91, 1000000)]),
    ([(1, 0, 1)], [(0, 0), (2, 2), (1, 1), (1, 1), (9, 9), (0, 0)], [], [], [(90, 1000000), (91, 1000000)]),
    ([(1, 0, 81)], [(0, 0), (2, 2), (1, 1), (1, 1), (8, 8), (1, 1)], [], [], [(90, 1000000), (91, 1000000)]),
    ([(1, 0, 73)], [(0, 0), (2, 2), (1, 1), (1, 1), (8, 8), (0, 0)], [], [], [(90, 1000000), (91, 1000000)]),
    ([(1, 0, 81)], [(0, 0), (2, 2), (1, 1), (1, 1), (7, 7), (1, 1)], [], [], [(90, 1000000), (91, 1000000)]),
    ([(1, 0, 65)], [(0, 0), (2, 2), (1, 1), (1, 1), (7, 7), (0, 0)], [], [], [(90, 1000000), (91, 1000000)]),
    ([(1, 0, 27)], [(0, 0), (2, 2), (1, 1), (1, 1), (6, 6), (1, 1)], [], [], [(90, 1000000), (91, 1000000)]),
    ([(1, 0, 19)], [(0, 0), (2, 2), (1, 1), (1, 1), (6, 6), (0, 0)], [], [], [(90, 1000000), (91, 1000000)]),
    ([(1, 0, 81)], [(0, 0), (2, 2), (1, 1), (1, 1), (5, 5), (1, 1)], [], [], [(90, 1000000), (91, 1000000)]),
    ([(1, 0, 49)], [(0, 0), (2, 2), (1, 1), (1, 1), (5, 5), (0, 0)], [], [], [(90, 1000000), (91, 1000000)]),
    ([(1, 0, 81)], [(0, 0), (2, 2), (1, 1), (1, 1), (4, 4), (1, 1)], [], [], [(90, 1000000), (91, 1000000)]),
    ([(1, 0, 41)], [(0, 0), (2, 2), (1, 1), (1, 1), (4, 4), (0, 0)], [], [], [(90, 1000000), (91, 1000000)]),
    ([(1, 0, 27)], [(0, 0), (2, 2), (1, 1), (1, 1), (3, 3), (1, 1)], [], [], [(90, 1000000), (91, 1000000)]),
    ([(1, 0, 11)], [(0, 0), (2, 2), (1, 1), (1, 1), (3, 3), (0, 0)], [], [], [(90, 1000000), (91, 1000000)]),
    ([(1, 0, 81)], [(0, 0), (2, 2), (1, 1), (1, 1), (2, 2), (1, 1)], [], [], [(90, 1000000), (91, 1000000)]),
    ([(1, 0, 25)], [(0, 0), (2, 2), (1, 1), (1, 1), (2, 2), (0, 0)], [], [], [(90, 1000000), (91, 1000000)]),
    ([(1, 0, 81)], [(0, 0), (2, 2), (1, 1), (1, 1), (1, 1), (1, 1)], [], [], [(90, 1000000), (91, 1000000)]),
    ([(1, 0, 17)], [(0, 0), (2, 2), (1, 1), (1, 1), (1, 1), (0, 0)], [], [], [(90, 1000000), (91, 1000000)]),
    ([(1, 0, 81)], [(0, 0), (2, 2), (1, 1), (1, 1), (0, 0), (1, 1)], [], [], [(90, 1000000), (91, 1000000)]),
    ([(1, 0, 17)], [(0, 0), (2, 2), (1, 1), (1, 1), (0, 0), (0, 0)], [], [], [(90, 1000000), (91, 1000000)]),
    ([(1, 0, 1)], [(0, 0), (2, 2), (0, 0), (1, 1), (9, 9), (1, 1)], [], [], [(90, 1000000), (91, 1000000)]),
    ([(1, 0, 1)], [(0, 0), (2, 2), (0, 0), (1, 1), (9, 9), (0, 0)], [], [], [(90, 1000000), (91, 1000000)]),
    ([(1, 0, 81)], [(0, 0), (2, 2), (0, 0), (1, 1), (8, 8), (1, 1)], [], [], [(90, 1000000), (91, 1000000)]),
    ([(1, 0, 80)], [(0, 0), (2, 2), (0, 0), (1, 1), (8, 8), (0, 0)], [], [], [(90, 1000000), (91, 1000000)]),
    ([(1, 0, 81)], [(0, 0), (2, 2), (0, 0), (1, 1), (7, 7), (1, 1)], [], [], [(90, 1000000), (91, 1000000)]),
    ([(1, 0, 77)], [(0, 0), (2, 2), (0, 0), (1, 1), (7, 7), (0, 0)], [], [], [(90, 1000000), (91, 1000000)]),
    ([(1, 0, 9)], [(0, 0), (2, 2), (0, 0), (1, 1), (6, 6), (1, 1)], [], [], [(90, 1000000), (91, 1000000)]),
    ([(1, 0, 8)], [(0, 0), (2, 2), (0, 0), (1, 1), (6, 6), (0, 0)], [], [], [(90, 1000000), (91, 1000000)]),
    ([(1, 0, 81)], [(0, 0), (2, 2), (0, 0), (1, 1), (5, 5), (1, 1)], [], [], [(90, 1000000), (91, 1000000)]),
    ([(1, 0, 65)], [(0, 0), (2, 2), (0, 0), (1, 1), (5, 5), (0, 0)], [], [], [(90, 1000000), (91, 1000000)]),
    ([(1, 0, 81)], [(0, 0), (2, 2), (0, 0), (1, 1), (4, 4), (1, 1)], [], [], [(90, 1000000), (91, 1000000)]),
    ([(1, 0, 56)], [(0, 0), (2, 2), (0, 0), (1, 1), (4, 4), (0, 0)], [], [], [(90, 1000000), (91, 1000000)]),
    ([(1, 0, 9)], [(0, 0), (2, 2), (0, 0), (1, 1), (3, 3), (1, 1)], [], [], [(90, 1000000), (91, 1000000)]),
    ([(1, 0, 5)], [(0, 0), (2, 2), (0, 0), (1, 1), (3, 3), (0, 0)], [], [], [(90, 1000000), (91, 1000000)]),
    ([(1, 0, 81)], [(0, 0), (2, 2), (0, 0), (1, 1), (2, 2), (1, 1)], [], [], [(90, 1000000), (91, 1000000)]),
    ([(1, 0, 32)], [(0, 0), (2, 2), (0, 0), (1, 1), (2, 2), (0, 0)], [], [], [(90, 1000000), (91, 1000000)]),
    ([(1, 0, 729)], [(0, 0), (2, 2), (0, 0), (1, 1), (1, 1), (1, 1)], [], [], [(90, 1000000), (91, 1000000)]),
    ([(1, 0, 217)], [(0, 0), (2, 2), (0, 0), (1, 1), (1, 1), (0, 0)], [], [], [(90, 1000000), (91, 1000000)]),
    ([(1, 0, 729)], [(0, 0), (2, 2), (0, 0), (1, 1), (0, 0), (1, 1)], [], [], [(90, 1000000), (91, 1000000)]),
    ([(1, 0, 217)], [(0, 0), (2, 2), (0, 0), (1, 1), (0, 0), (0, 0)], [], [], [(90, 1000000), (91, 1000000)]),
    ([(1, 0, 1)], [(0, 0), (1, 1), (2, 2), (1, 1), (9, 9), (1, 1)], [], [], [(90, 1000000), (91, 1000000)]),
    ([(1, 0, 1)], [(0, 0), (1, 1), (2, 2), (1, 1), (9, 9), (0, 0)], [], [], [(90, 1000000), (91, 1000000)]),
    ([(1, 0, 9)], [(0, 0), (1, 1), (2, 2), (1, 1), (8, 8), (1, 1)], [], [], [(90, 1000000), (91, 1000000)]),
    ([(1, 0, 8)], [(0, 0), (1, 1), (2, 2), (1, 1), (8, 8), (0, 0)], [], [], [(90, 1000000), (91, 1000000)]),
    ([(1, 0, 9)], [(0, 0), (1, 1), (2, 2), (1, 1), (7, 7), (1, 1)], [], [], [(90, 1000000), (91, 1000000)]),
    ([(1, 0, 7)], [(0, 0), (1, 1), (2, 2), (1, 1), (7, 7), (0, 0)], [], [], [(90, 1000000), (91, 1000000)]),
    ([(1, 0, 3)], [(0, 0), (1, 1), (2, 2), (1, 1), (6, 6), (1, 1)], [], [], [(90, 1000000), (91, 1000000)]),
    ([(1, 0, 2)], [(0, 0), (1, 1), (2, 2), (1, 1), (6, 6), (0, 0)], [], [], [(90, 1000000), (91, 1000000)]),
    ([(1, 0, 9)], [(0, 0), (1, 1), (2, 2), (1, 1), (5, 5), (1, 1)], [], [], [(90, 1000000), (91, 1000000)]),
    ([(1, 0, 5)], [(0, 0), (1, 1), (2, 2), (1, 1), (5, 5), (0, 0)], [], [], [(90, 1000000), (91, 1000000)]),
    ([(1, 0, 9)], [(0, 0), (1, 1), (2, 2), (1, 1), (4, 4), (1, 1)], [], [], [(90, 1000000), (91, 1000000)]),
    ([(1, 0, 4)], [(0, 0), (1, 1), (2, 2), (1, 1), (4, 4), (0, 0)], [], [], [(90, 1000000), (91, 1000000)]),
    ([(1, 0, 3)], [(0, 0), (1, 1), (2, 2), (1, 1), (3, 3), (1, 1)], [], [], [(90, 1000000), (91, 1000000)]),
    ([(1, 0, 1)], [(0, 0), (1, 1), (2, 2), (1, 1), (3, 3), (0, 0)], [], [], [(90, 1000000), (91, 1000000)]),
    ([(1, 0, 9)], [(0, 0), (1, 1), (2, 2), (1, 1), (2, 2), (1, 1)], [], [], [(90, 1000000), (91, 1000000)]),
    ([(1, 0, 2)], [(0, 0), (1, 1), (2, 2), (1, 1), (2, 2), (0, 0)], [], [], [(90, 1000000), (91, 1000000)]),
    ([(1, 0, 9)], [(0, 0), (1, 1), (2, 2), (1, 1), (1, 1), (1, 1)], [], [], [(90, 1000000), (91, 1000000)]),
    ([(1, 0, 1)], [(0, 0), (1, 1), (2, 2), (1, 1), (1, 1), (0, 0)], [], [], [(90, 1000000), (91, 1000000)]),
    ([(1, 0, 81)], [(0, 0), (1, 1), (2, 2), (1, 1), (0, 0), (1, 1)], [], [], [(90, 1000000), (91, 1000000)]),
    ([(1, 0, 1)], [(0, 0), (1, 1), (2, 2), (1, 1), (0, 0), (0, 0)], [], [], [(90, 1000000), (91, 1000000)]),
    ([(1, 0, 1)], [(0, 0), (1, 1), (1, 1), (1, 1), (9, 9), (1, 1)], [], [], [(90, 1000000), (91, 1000000)]),
    ([(1, 0, 1)], [(0, 0), (1, 1), (1, 1), (1, 1), (9, 9), (0, 0)], [], [], [(90, 1000000), (91, 1000000)]),
    ([(1, 0, 729)], [(0, 0), (1, 1), (1, 1), (1, 1), (8, 8), (1, 1)], [], [], [(90, 1000000), (91, 1000000)]),
    ([(1, 0, 649)], [(0, 0), (1, 1), (1, 1), (1, 1), (8, 8), (0, 0)], [], [], [(90, 1000000), (91, 1000000)]),
    ([(1, 0, 729)], [(0, 0), (1, 1), (1, 1), (1, 1), (7, 7), (1, 1)], [], [], [(90, 1000000), (91, 1000000)]),
    ([(1, 0, 569)], [(0, 0), (1, 1), (1, 1), (1, 1), (7, 7), (0, 0)], [], [], [(90, 1000000), (91, 1000000)]),
    ([(1, 0, 243)], [(0, 0), (1, 1), (1, 1), (1, 1), (6, 6), (1, 1)], [], [], [(90, 1000000), (91, 1000000)]),
    ([(1, 0, 163)], [(0, 0), (1, 1), (1, 1), (1, 1), (6, 6), (0, 0)], [], [], [(90, 1000000), (91, 1000000)]),
    ([(1, 0, 729)], [(0, 0), (1, 1), (1, 1), (1, 1), (5, 5), (1, 1)], [], [], [(90, 1000000), (91, 1000000)]),
    ([(1, 0, 409)], [(0, 0), (1, 1), (1, 1), (1, 1), (5, 5), (0, 0)], [], [], [(90, 1000000), (91, 1000000)]),
    ([(1, 0, 729)], [(0, 0), (1, 1), (1, 1), (1, 1), (4, 4), (1, 1)], [], [], [(90, 1000000), (91, 1000000)]),
    ([(1, 0, 329)], [(0, 0), (1, 1), (1, 1), (1, 1), (4, 4), (0, 0)], [], [], [(90, 1000000), (91, 1000000)]),
    ([(1, 0, 243)], [(0, 0), (1, 1), (1, 1), (1, 1), (3, 3), (1, 1)], [], [], [(90, 1000000), (91, 1000000)]),
    ([(1, 0, 83)], [(0, 0), (1, 1), (1, 1), (1, 1), (3, 3), (0, 0)], [], [], [(90, 1000000), (91, 1000000)]),
    ([(1, 0, 729)], [(0, 0), (1, 1), (1, 1), (1, 1), (2, 2), (1, 1)], [], [], [(90, 1000000), (91, 1000000)]),
    ([(1, 0, 169)], [(0, 0), (1, 1), (1, 1), (1, 1), (2, 2), (0, 0)], [], [], [(90, 1000000), (91, 1000000)]),
    ([(1, 0, 729)], [(0, 0), (1, 1), (1, 1), (1, 1), (1, 1), (1, 1)], [], [], [(90, 1000000), (91, 1000000)]),
    ([(1, 0, 89)], [(0, 0), (1, 1), (1, 1), (1, 1), (1, 1), (0, 0)], [], [], [(90, 1000000), (91, 1000000)]),
    ([(1, 0, 729)], [(0, 0), (1, 1), (1, 1), (1, 1), (0, 0), (1, 1)], [], [], [(90, 1000000), (91, 1000000)]),
    ([(1, 0, 25)], [(0, 0), (1, 1), (1, 1), (1, 1), (0, 0), (0, 0)], [], [], [(90, 1000000), (91, 1000000)]),
    ([(1, 0, 1)], [(0, 0), (1, 1), (0, 0), (1, 1), (9, 9), (1, 1)], [], [], [(90, 1000000), (91, 1000000)]),
    ([(1, 0, 1)], [(0, 0), (1, 1), (0, 0), (1, 1), (9, 9), (0, 0)], [], [], [(90, 1000000), (91, 1000000)]),
    ([(1, 0, 81)], [(0, 0), (1, 1), (0, 0), (1, 1), (8, 8), (1, 1)], [], [], [(90, 1000000), (91, 1000000)]),
    ([(1, 0, 80)], [(0, 0), (1, 1), (0, 0), (1, 1), (8, 8), (0, 0)], [], [], [(90, 1000000), (91, 1000000)]),
    ([(1, 0, 81)], [(0, 0), (1, 1), (0, 0), (1, 1), (7, 7), (1, 1)], [], [], [(90, 1000000), (91, 1000000)]),
    ([(1, 0, 77)], [(0, 0), (1, 1), (0, 0), (1, 1), (7, 7), (0, 0)], [], [], [(90, 1000000), (91, 1000000)]),
    ([(1, 0, 9)], [(0, 0), (1, 1), (0, 0), (1, 1), (6, 6), (1, 1)], [], [], [(90, 1000000), (91, 1000000)]),
    ([(1, 0, 8)], [(0, 0), (1, 1), (0, 0), (1, 1), (6, 6), (0, 0)], [], [], [(90, 1000000), (91, 1000000)]),
    ([(1, 0, 81)], [(0, 0), (1, 1), (0, 0), (1, 1), (5, 5), (1, 1)], [], [], [(90, 1000000), (91, 1000000)]),
    ([(1, 0, 65)], [(0, 0), (1, 1), (0, 0), (1, 1), (5, 5), (0, 0)], [], [], [(90, 1000000), (91, 1000000)]),
    ([(1, 0, 81)], [(0, 0), (1, 1), (0, 0), (1, 1), (4, 4), (1, 1)], [], [], [(90, 1000000), (91, 1000000)]),
    ([(1, 0, 56)], [(0, 0), (1, 1), (0, 0), (1, 1), (4, 4), (0, 0)], [], [], [(90, 1000000), (91, 1000000)]),
    ([(1, 0, 9)], [(0, 0), (1, 1), (0, 0), (1, 1), (3, 3), (1, 1)], [], [], [(90, 1000000), (91, 1000000)]),
    ([(1, 0, 5)], [(0, 0), (1, 1), (0, 0), (1, 1), (3, 3), (0, 0)], [], [], [(90, 1000000), (91, 1000000)]),
    ([(1, 0, 81)], [(0, 0), (1, 1), (0, 0), (1, 1), (2, 2), (1, 1)], [], [], [(90, 1000000), (91, 1000000)]),
    ([(1, 0, 32)], [(0, 0), (1, 1), (0, 0), (1, 1), (2, 2), (0, 0)], [], [], [(90, 1000000), (91, 1000000)]),
    ([(1, 0, 81)], [(0, 0), (1, 1), (0, 0), (1, 1), (1, 1), (1, 1)], [], [], [(90, 1000000), (91, 1000000)]),
    ([(1, 0, 17)], [(0, 0), (1, 1), (0, 0), (1, 1), (1, 1), (0, 0)], [], [], [(90, 1000000), (91, 1000000)]),
    ([(1, 0, 2187)], [(0, 0), (1, 1), (0, 0), (1, 1), (0, 0), (1, 1)], [], [], [(90, 1000000), (91, 1000000)]),
    ([(1, 0, 139)], [(0, 0), (1, 1), (0, 0), (1, 1), (0, 0), (0, 0)], [], [], [(90, 1000000), (91, 1000000)]),
    ([(1, 0, 1)], [(0, 0), (0, 0), (2, 2), (1, 1), (9, 9), (1, 1)], [], [], [(90, 1000000), (91, 1000000)]),
    ([(1, 0, 1)], [(0, 0), (0, 0), (2, 2), (1, 1), (9, 9), (0, 0)], [], [], [(90, 1000000), (91, 1000000)]),
    ([(1, 0, 81)], [(0, 0), (0, 0), (2, 2), (1, 1), (8, 8), (1, 1)], [], [], [(90, 1000000), (91, 1000000)]),
    ([(1, 0, 64)], [(0, 0), (0, 0), (2, 2), (1, 1), (8, 8), (0, 0)], [], [], [(90, 1000000), (91, 1000000)]),
    ([(1, 0, 81)], [(0, 0), (0, 0), (2, 2), (1, 1), (7, 7), (1, 1)], [], [], [(90, 1000000), (91, 1000000)]),
    ([(1, 0, 49)], [(0, 0), (0, 0), (2, 2), (1, 1), (7, 7), (0, 0)], [], [], [(90, 1000000), (91, 1000000)]),
    ([(1, 0, 9)], [(0, 0), (0, 0), (2, 2), (1, 1), (6, 6), (1, 1)], [], [], [(90, 1000000), (91, 1000000)]),
    ([(1, 0, 4)], [(0, 0), (0, 0), (2, 2), (1, 1), (6, 6), (0, 0)], [], [], [(90, 1000000), (91, 1000000)]),
    ([(1, 0, 81)], [(0, 0), (0, 0), (2, 2), (1, 1), (5, 5), (1, 1)], [], [], [(90, 1000000), (91, 1000000)]),
    ([(1, 0, 25)], [(0, 0), (0, 0), (2, 2), (1, 1), (5, 5), (0, 0)], [], [], [(90, 1000000), (91, 1000000)]),
    ([(1, 0, 81)], [(0, 0), (0, 0), (2, 2), (1, 1), (4, 4), (1, 1)], [], [], [(90, 1000000), (91, 1000000)]),
    ([(1, 0, 16)], [(0, 0), (0, 0), (2, 2), (1, 1), (4, 4), (0, 0)], [], [], [(90, 1000000), (91, 1000000)]),
    ([(1, 0, 9)], [(0, 0), (0, 0), (2, 2), (1, 1), (3, 3), (1, 1)], [], [], [(90, 1000000), (91, 1000000)]),
    ([(1, 0, 1)], [(0, 0), (0, 0), (2, 2), (1, 1), (3, 3), (0, 0)], [], [], [(90, 1000000), (91, 1000000)]),
    ([(1, 0, 81)], [(0, 0), (0, 0), (2, 2), (1, 1), (2, 2), (1, 1)], [], [], [(90, 1000000), (91, 1000000)]),
    ([(1, 0, 4)], [(0, 0), (0, 0), (2, 2), (1, 1), (2, 2), (0, 0)], [], [], [(90, 1000000), (91, 1000000)]),
    ([(1, 0, 81)], [(0, 0), (0, 0), (2, 2), (1, 1), (1, 1), (1, 1)], [], [], [(90, 1000000), (91, 1000000)]),
    ([(1, 0, 1)], [(0, 0), (0, 0), (2, 2), (1, 1), (1, 1), (0, 0)], [], [], [(90, 1000000), (91, 1000000)]),
    ([(1, 0, 729)], [(0, 0), (0, 0), (2, 2), (1, 1), (0, 0), (1, 1)], [], [], [(90, 1000000), (91, 1000000)]),
    ([(1, 0, 1)], [(0, 0), (0, 0), (2, 2), (1, 1), (0, 0), (0, 0)], [], [], [(90, 1000000), (91, 1000000)]),
    ([(1, 0, 1)], [(0, 0), (0, 0), (1, 1), (1, 1), (9, 9), (1, 1)], [], [], [(90, 1000000), (91, 1000000)]),
    ([(1, 0, 1)], [(0, 0), (0, 0), (1, 1), (1, 1), (9, 9), (0, 0)], [], [], [(90, 1000000), (91, 1000000)]),
    ([(1, 0, 6561)], [(0, 0), (0, 0), (1, 1), (1, 1), (8, 8), (1, 1)], [], [], [(90, 1000000), (91, 1000000)]),
    ([(1, 0, 5257)], [(0, 0), (0, 0), (1, 1), (1, 1), (8, 8), (0, 0)], [], [], [(90, 1000000), (91, 1000000)]),
    ([(1, 0, 6561)], [(0, 0), (0, 0), (1, 1), (1, 1), (7, 7), (1, 1)], [], [], [(90, 1000000), (91, 1000000)]),
    ([(1, 0, 4097)], [(0, 0), (0, 0), (1, 1), (1, 1), (7, 7), (0, 0)], [], [], [(90, 1000000), (91, 1000000)]),
    ([(1, 0, 2187)], [(0, 0), (0, 0), (1, 1), (1, 1), (6, 6), (1, 1)], [], [], [(90, 1000000), (91, 1000000)]),
    ([(1, 0, 1027)], [(0, 0), (0, 0), (1, 1), (1, 1), (6, 6), (0, 0)], [], [], [(90, 1000000), (91, 1000000)]),
    ([(1, 0, 6561)], [(0, 0), (0, 0), (1, 1), (1, 1), (5, 5), (1, 1)], [], [], [(90, 1000000), (91, 1000000)]),
    ([(1, 0, 2209)], [(0, 0), (0, 0), (1, 1), (1, 1), (5, 5), (0, 0)], [], [], [(90, 1000000), (91, 1000000)]),
    ([(1, 0, 6561)], [(0, 0), (0, 0), (1, 1), (1, 1), (4, 4), (1, 1)], [], [], [(90, 1000000), (91, 1000000)]),
    ([(1, 0, 1481)], [(0, 0), (0, 0), (1, 1), (1, 1), (4, 4), (0, 0)], [], [], [(90, 1000000), (91, 1000000)]),
    ([(1, 0, 2187)], [(0, 0), (0, 0), (1, 1), (1, 1), (3, 3), (1, 1)], [], [], [(90, 1000000), (91, 1000000)]),
    ([(1, 0, 299)], [(0, 0), (0, 0), (1, 1), (1, 1), (3, 3), (0, 0)], [], [], [(90, 1000000), (91, 1000000)]),
    ([(1, 0, 6561)], [(0, 0), (0, 0), (1, 1), (1, 1), (2, 2), (1, 1)], [], [], [(90, 1000000), (91, 1000000)]),
    ([(1, 0, 457)], [(0, 0), (0, 0), (1, 1), (1, 1), (2, 2), (0, 0)], [], [], [(90, 1000000), (91, 1000000)]),
    ([(1, 0, 6561)], [(0, 0), (0, 0), (1, 1), (1, 1), (1, 1), (1, 1)], [], [], [(90, 1000000), (91, 1000000)]),
    ([(1, 0, 161)], [(0, 0), (0, 0), (1, 1), (1, 1), (1, 1), (0, 0)], [], [], [(90, 1000000), (91, 1000000)]),
    ([(1, 0, 2187)], [(0, 0), (0, 0), (1, 1), (1, 1), (0, 0), (1, 1)], [], [], [(90, 1000000), (91, 1000000)]),
    ([(1, 0, 11)], [(0, 0), (0, 0), (1, 1), (1, 1), (0, 0), (0, 0)], [], [], [(90, 1000000), (91, 1000000)]),
    ([(1, 0, 1)], [(0, 0), (0, 0), (0, 0), (1, 1), (9, 9), (1, 1)], [], [], [(90, 1000000), (91, 1000000)]),
    ([(1, 0, 1)], [(0, 0), (0, 0), (0, 0), (1, 1), (9, 9), (0, 0)], [], [], [(90, 1000000), (91, 1000000)]),
    ([(1, 0, 729)], [(0, 0), (0, 0), (0, 0), (1, 1), (8, 8), (1, 1)], [], [], [(90, 1000000), (91, 1000000)]),
    ([(1, 0, 704)], [(0, 0), (0, 0), (0, 0), (1, 1), (8, 8), (0, 0)], [], [], [(90, 1000000), (91, 1000000)]),
    ([(1, 0, 729)], [(0, 0), (0, 0), (0, 0), (1, 1), (7, 7), (1, 1)], [], [], [(90, 1000000), (91, 1000000)]),
    ([(1, 0, 637)], [(0, 0), (0, 0), (0, 0), (1, 1), (7, 7), (0, 0)], [], [], [(90, 1000000), (91, 1000000)]),
    ([(1, 0, 27)], [(0, 0), (0, 0), (0, 0), (1, 1), (6, 6), (1, 1)], [], [], [(90, 1000000), (91, 1000000)]),
    ([(1, 0, 20)], [(0, 0), (0, 0), (0, 0), (1, 1), (6, 6), (0, 0)], [], [], [(90, 1000000), (91, 1000000)]),
    ([(1, 0, 729)], [(0, 0), (0, 0), (0, 0), (1, 1), (5, 5), (1, 1)], [], [], [(90, 1000000), (91, 1000000)]),
    ([(1, 0, 425)], [(0, 0), (0, 0), (0, 0), (1, 1), (5, 5), (0, 0)], [], [], [(90, 1000000), (91, 1000000)]),
    ([(1, 0, 729)], [(0, 0), (0, 0), (0, 0), (1, 1), (4, 4), (1, 1)], [], [], [(90, 1000000), (91, 1000000)]),
    ([(1, 0, 304)], [(0, 0), (0, 0), (0, 0), (1, 1), (4, 4), (0, 0)], [], [], [(90, 1000000), (91, 1000000)]),
    ([(1, 0, 27)], [(0, 0), (0, 0), (0, 0), (1, 1), (3, 3), (1, 1)], [], [], [(90, 1000000), (91, 1000000)]),
    ([(1, 0, 7)], [(0, 0), (0, 0), (0, 0), (1, 1), (3, 3), (0, 0)], [], [], [(90, 1000000), (91, 1000000)]),
    ([(1, 0, 729)], [(0, 0), (0, 0), (0, 0), (1, 1), (2, 2), (1, 1)], [], [], [(90, 1000000), (91, 1000000)]),
    ([(1, 0, 92)], [(0, 0), (0, 0), (0, 0), (1, 1), (2, 2), (0, 0)], [], [], [(90, 1000000), (91, 1000000)]),
    ([(1, 0, 59049)], [(0, 0), (0, 0), (0, 0), (1, 1), (1, 1), (1, 1)], [], [], [(90, 1000000), (91, 1000000)]),
    ([(1, 0, 2665)], [(0, 0), (0, 0), (0, 0), (1, 1), (1, 1), (0, 0)], [], [], [(90, 1000000), (91, 1000000)]),
    ([(1, 0, 19683)], [(0, 0), (0, 0), (0, 0), (1, 1), (0, 0), (1, 1)], [], [], [(90, 1000000), (91, 1000000)]),
    ([(1, 0, 227)], [(0, 0), (0, 0), (0, 0), (1, 1), (0, 0), (0, 0)], [], [], [(90, 1000000), (91, 1000000)])])
def nxo_bolder_2 : List ab_OU := [([], [(0, 0), ((-2147483648), (-1)), ((-2147483648), 2147483647), (1, 1), ((-2147483648), 2147483647), ((-2147483648), 2147483647)], [], [], []),
    ([], [(0, 0), (3, 2147483647), ((-2147483648), 2147483647), (1, 1), ((-2147483648), 2147483647), ((-2147483648), 2147483647)], [], [], []),
    ([], [(0, 0), (0, 2), ((-2147483648), (-1)), (1, 1), ((-2147483648), 2147483647), ((-2147483648), 2147483647)], [], [], []),
    ([], [(0, 0), (0, 2), (3, 2147483647), (1, 1), ((-2147483648), 2147483647), ((-2147483648), 2147483647)], [], [], []),
    ([], [(0, 0), (0, 2), (0, 2), (1, 1), ((-2147483648), (-1)), ((-2147483648), 2147483647)], [], [], []),
    ([], [(0, 0), (0, 2), (0, 2), (1, 1), (10, 2147483647), ((-2147483648), 2147483647)], [], [], []),
    ([], [(0, 0), (0, 2), (0, 2), (1, 1), (0, 9), ((-2147483648), (-1))], [], [], []),
    ([], [(0, 0), (0, 2), (0, 2), (1, 1), (0, 9), (2, 2147483647)], [], [], [])]
def nxe_bolder_2_0 : ab_ND := (37, ([(0, (2, 0, 0)), (1, (0, 1, 0)), (2, (0, 2, 0)), (3, (0, 3, 0)), (4, (0, 4, 0)), (5, (0, 5, 0))], [], [(0, 0), ((-2147483648), (-1)), ((-2147483648), 2147483647), (1, 1), ((-2147483648), 2147483647), ((-2147483648), 2147483647)], [], [], []), ((0, [], []), (0, [], []), (0, [], [])))
def nxe_bolder_2_1 : ab_ND := (37, ([(0, (2, 0, 0)), (1, (0, 1, 0)), (2, (0, 2, 0)), (3, (0, 3, 0)), (4, (0, 4, 0)), (5, (0, 5, 0))], [], [(0, 0), (3, 2147483647), ((-2147483648), 2147483647), (1, 1), ((-2147483648), 2147483647), ((-2147483648), 2147483647)], [], [], []), ((0, [], []), (0, [], []), (0, [], [])))
def nxe_bolder_2_2 : ab_ND := (37, ([(0, (2, 0, 0)), (1, (0, 1, 0)), (2, (0, 2, 0)), (3, (0, 3, 0)), (4, (0, 4, 0)), (5, (0, 5, 0))], [], [(0, 0), (0, 2), ((-2147483648), (-1)), (1, 1), ((-2147483648), 2147483647), ((-2147483648), 2147483647)], [], [], []), ((0, [], []), (0, [], []), (0, [], [])))
def nxe_bolder_2_3 : ab_ND := (37, ([(0, (2, 0, 0)), (1, (0, 1, 0)), (2, (0, 2, 0)), (3, (0, 3, 0)), (4, (0, 4, 0)), (5, (0, 5, 0))], [], [(0, 0), (0, 2), (3, 2147483647), (1, 1), ((-2147483648), 2147483647), ((-2147483648), 2147483647)], [], [], []), ((0, [], []), (0, [], []), (0, [], [])))
def nxe_bolder_2_4 : ab_ND := (37, ([(0, (2, 0, 0)), (1, (0, 1, 0)), (2, (0, 2, 0)), (3, (0, 3, 0)), (4, (0, 4, 0)), (5, (0, 5, 0))], [], [(0, 0), (0, 2), (0, 2), (1, 1), ((-2147483648), (-1)), ((-2147483648), 2147483647)], [], [], []), ((0, [], []), (0, [], []), (0, [], [])))
def nxe_bolder_2_5 : ab_ND := (37, ([(0, (2, 0, 0)), (1, (0, 1, 0)), (2, (0, 2, 0)), (3, (0, 3, 0)), (4, (0, 4, 0)), (5, (0, 5, 0))], [], [(0, 0), (0, 2), (0, 2), (1, 1), (10, 2147483647), ((-2147483648), 2147483647)], [], [], []), ((0, [], []), (0, [], []), (0, [], [])))
def nxe_bolder_2_6 : ab_ND := (37, ([(0, (2, 0, 0)), (1, (0, 1, 0)), (2, (0, 2, 0)), (3, (0, 3, 0)), (4, (0, 4, 0)), (5, (0, 5, 0))], [], [(0, 0), (0, 2), (0, 2), (1, 1), (0, 9), ((-2147483648), (-1))], [], [], []), ((0, [], []), (0, [], []), (0, [], [])))
def nxe_bolder_2_7 : ab_ND := (37, ([(0, (2, 0, 0)), (1, (0, 1, 0)), (2, (0, 2, 0)), (3, (0, 3, 0)), (4, (0, 4, 0)), (5, (0, 5, 0))], [], [(0, 0), (0, 2), (0, 2), (1, 1), (0, 9), (2, 2147483647)], [], [], []), ((0, [], []), (0, [], []), (0, [], [])))
def nxm_bolder_2_0 : ab_ND := (0, (ab_en0 0 nxd_bolder_2.1, [], nxd_bolder_2.2.1, nxd_bolder_2.2.2.1, nxd_bolder_2.2.2.2.1, []), ((9000000000000000000000, [], []), (0, [], []), (0, [], [])))
def nxm_bolder_2_1 : ab_ND := (48, ([(0, (2, 0, 0)), (1, (0, 0, 2)), (2, (0, 0, 2)), (3, (0, 0, 1)), (4, (0, 4, 0)), (5, (0, 5, 0))], [(2, 0, 0)], [(0, 0), (2, 2), (2, 2), (1, 1), (0, 9), (0, 1)], [], [], []), ((0, [], []), (0, [], []), (0, [], [])))
def nxm_bolder_2_2 : ab_ND := (48, ([(0, (2, 0, 0)), (1, (0, 0, 2)), (2, (0, 0, 1)), (3, (0, 0, 1)), (4, (0, 4, 0)), (5, (0, 5, 0))], [(2, 0, 0)], [(0, 0), (2, 2), (1, 1), (1, 1), (0, 9), (0, 1)], [], [], []), ((1000000000000000000000, [], []), (0, [], []), (0, [], [])))
def nxm_bolder_2_3 : ab_ND := (48, ([(0, (2, 0, 0)), (1, (0, 0, 2)), (2, (0, 0, 0)), (3, (0, 0, 1)), (4, (0, 4, 0)), (5, (0, 5, 0))], [(2, 0, 0)], [(0, 0), (2, 2), (0, 0), (1, 1), (0, 9), (0, 1)], [], [], []), ((2000000000000000000000, [], []), (0, [], []), (0, [], [])))
def nxm_bolder_2_4 : ab_ND := (48, ([(0, (2, 0, 0)), (1, (0, 0, 1)), (2, (0, 0, 2)), (3, (0, 0, 1)), (4, (0, 4, 0)), (5, (0, 5, 0))], [(2, 0, 0)], [(0, 0), (1, 1), (2, 2), (1, 1), (0, 9), (0, 1)], [], [], []), ((3000000000000000000000, [], []), (0, [], []), (0, [], [])))
def nxm_bolder_2_5 : ab_ND := (48, ([(0, (2, 0, 0)), (1, (0, 0, 1)), (2, (0, 0, 1)), (3, (0, 0, 1)), (4, (0, 4, 0)), (5, (0, 5, 0))], [(2, 0, 0)], [(0, 0), (1, 1), (1, 1), (1, 1), (0, 9), (0, 1)], [], [], []), ((4000000000000000000000, [], []), (0, [], []), (0, [], [])))
def nxm_bolder_2_6 : ab_ND := (48, ([(0, (2, 0, 0)), (1, (0, 0, 1)), (2, (0, 0, 0)), (3, (0, 0, 1)), (4, (0, 4, 0)), (5, (0, 5, 0))], [(2, 0, 0)], [(0, 0), (1, 1), (0, 0), (1, 1), (0, 9), (0, 1)], [], [], []), ((5000000000000000000000, [], []), (0, [], []), (0, [], [])))
def nxm_bolder_2_7 : ab_ND := (48, ([(0, (2, 0, 0)), (1, (0, 0, 0)), (2, (0, 0, 2)), (3, (0, 0, 1)), (4, (0, 4, 0)), (5, (0, 5, 0))], [(2, 0, 0)], [(0, 0), (0, 0), (2, 2), (1, 1), (0, 9), (0, 1)], [], [], []), ((6000000000000000000000, [], []), (0, [], []), (0, [], [])))
def nxm_bolder_2_8 : ab_ND := (48, ([(0, (2, 0, 0)), (1, (0, 0, 0)), (2, (0, 0, 1)), (3, (0, 0, 1)), (4, (0, 4, 0)), (5, (0, 5, 0))], [(2, 0, 0)], [(0, 0), (0, 0), (1, 1), (1, 1), (0, 9), (0, 1)], [], [], []), ((7000000000000000000000, [], []), (0, [], []), (0, [], [])))
def nxm_bolder_2_9 : ab_ND := (48, ([(0, (2, 0, 0)), (1, (0, 0, 0)), (2, (0, 0, 0)), (3, (0, 0, 1)), (4, (0, 4, 0)), (5, (0, 5, 0))], [(2, 0, 0)], [(0, 0), (0, 0), (0, 0), (1, 1), (0, 9), (0, 1)], [], [], []), ((8000000000000000000000, [], []), (0, [], []), (0, [], [])))
def nxn_bolder_2 : List ab_ND := [nxm_bolder_2_0, nxm_bolder_2_1, nxm_bolder_2_2, nxm_bolder_2_3, nxm_bolder_2_4, nxm_bolder_2_5, nxm_bolder_2_6, nxm_bolder_2_7, nxm_bolder_2_8, nxm_bolder_2_9]
def nxk_bolder_2 : ab_KS := [(136, 0, le_736), (81, 0, le_737), (55, 0, le_738), (138, 1, le_747), (138, 1, le_753), (138, 1, le_762), (138, 1, le_766), (138, 1, le_768), (138, 1, le_776), (138, 1, le_780), (138, 1, le_782), (193, 0, le_786), (193, 0, le_787), (193, 0, le_789), (193, 0, le_790), (193, 0, le_792), (193, 0, le_793), (193, 0, le_795), (193, 0, le_796), (193, 0, le_798), (193, 0, le_799), (193, 0, le_801), (193, 0, le_802), (193, 0, le_804), (193, 0, le_805), (193, 0, le_807), (193, 0, le_808), (193, 0, le_810), (193, 0, le_811), (193, 0, le_815), (193, 0, le_816), (193, 0, le_817), (193, 0, le_818), (193, 0, le_819), (193, 0, le_820), (193, 0, le_821), (193, 0, le_822), (193, 0, le_823), (193, 0, le_824), (193, 0, le_825), (193, 0, le_826), (193, 0, le_827), (193, 0, le_828), (193, 0, le_829), (193, 0, le_830), (193, 0, le_831), (193, 0, le_832), (193, 0, le_833), (193, 0, le_834), (193, 0, le_835), (193, 0, le_836), (193, 0, le_837), (193, 0, le_838), (138, 1, le_840), (193, 0, le_841), (193, 0, le_842), (193, 0, le_843), (193, 0, le_844), (193, 0, le_845), (193, 0, le_846), (193, 0, le_847), (193, 0, le_848), (193, 0, le_849), (193, 0, le_850), (193, 0, le_851), (193, 0, le_852), (193, 0, le_853), (193, 0, le_854), (193, 0, le_855), (193, 0, le_856), (137, 2, le_857), (137, 2, le_858), (137, 2, le_859), (137, 2, le_860), (137, 2, le_861), (137, 2, le_862), (137, 2, le_863), (137, 2, le_864), (137, 2, le_865), (137, 2, le_866), (193, 0, le_867), (193, 0, le_868), (193, 0, le_869), (193, 0, le_870), (193, 0, le_871), (193, 0, le_872), (193, 0, le_873), (193, 0, le_874), (193, 0, le_875), (193, 0, le_876), (193, 0, le_877), (193, 0, le_878), (193, 0, le_879), (193, 0, le_880), (193, 0, le_881), (193, 0, le_882), (193, 0, le_883), (193, 0, le_884), (193, 0, le_885), (193, 0, le_886), (193, 0, le_887), (193, 0, le_888), (193, 0, le_889), (193, 0, le_890), (193, 0, le_891), (193, 0, le_892), (193, 0, le_893), (193, 0, le_894), (193, 0, le_895), (193, 0, le_896), (193, 0, le_897), (193, 0, le_898), (193, 0, le_899), (193, 0, le_900), (193, 0, le_901), (193, 0, le_902), (193, 0, le_903), (193, 0, le_904), (193, 0, le_905), (193, 0, le_906), (193, 0, le_907), (193, 0, le_908), (193, 0, le_909), (193, 0, le_910), (193, 0, le_911), (193, 0, le_912), (193, 0, le_913), (193, 0, le_914), (193, 0, le_915), (193, 0, le_916), (193, 0, le_917), (193, 0, le_918)]
theorem nxc_bolder_2_0 : ab_cn vwCl nn_T nn_C nn_sh nn_MT (nn_KI1.map (fun x => x.1)) (nn_KJ1.map (fun x => x.1)) (nn_PF1.map (fun x => x.1)) nn_kd (nn_PS1.map (fun x => x.1)) (nn_PM1.map (fun x => x.1)) nxk_bolder_2 3 0 nn_dt200 6 nxd_bolder_2.2.1.length nxd_bolder_2.2.2.2.2 2 [] [37, 47, 48] [(47, [(0, 3, 0, 0), (0, 1, 0, 0), (0, 2, 0, 0)]), (48, [(0, 4, 0, 0), (0, 5, 0, 0)])] [nxe_bolder_2_0, nxe_bolder_2_1, nxe_bolder_2_2, nxe_bolder_2_3, nxe_bolder_2_4, nxe_bolder_2_5, nxe_bolder_2_6, nxe_bolder_2_7] nxn_bolder_2 21 nxm_bolder_2_0 = true := by decide +kernel
theorem nxc_bolder_2_1 : ab_cn vwCl nn_T nn_C nn_sh nn_MT (nn_KI1.map (fun x => x.1)) (nn_KJ1.map (fun x => x.1)) (nn_PF1.map (fun x => x.1)) nn_kd (nn_PS1.map (fun x => x.1)) (nn_PM1.map (fun x => x.1)) nxk_bolder_2 3 0 nn_dt200 6 nxd_bolder_2.2.1.length nxd_bolder_2.2.2.2.2 2 [] [37, 47, 48] [(47, [(0, 3, 0, 0), (0, 1, 0, 0), (0, 2, 0, 0)]), (48, [(0, 4, 0, 0), (0, 5, 0, 0)])] [nxe_bolder_2_0, nxe_bolder_2_1, nxe_bolder_2_2, nxe_bolder_2_3, nxe_bolder_2_4, nxe_bolder_2_5, nxe_bolder_2_6, nxe_bolder_2_7] nxn_bolder_2 21 nxm_bolder_2_1 = true := by decide +kernel
theorem nxc_bolder_2_2 : ab_cn vwCl nn_T nn_C nn_sh nn_MT (nn_KI1.map (fun x => x.1)) (nn_KJ1.map (fun x => x.1)) (nn_PF1.map (fun x => x.1)) nn_kd (nn_PS1.map (fun x => x.1)) (nn_PM1.map (fun x => x.1)) nxk_bolder_2 3 0 nn_dt200 6 nxd_bolder_2.2.1.length nxd_bolder_2.2.2.2.2 2 [] [37, 47, 48] [(47, [(0, 3, 0, 0), (0, 1, 0, 0), (0, 2, 0, 0)]), (48, [(0, 4, 0, 0), (0, 5, 0, 0)])] [nxe_bolder_2_0, nxe_bolder_2_1, nxe_bolder_2_2, nxe_bolder_2_3, nxe_bolder_2_4, nxe_bolder_2_5, nxe_bolder_2_6, nxe_bolder_2_7] nxn_bolder_2 21 nxm_bolder_2_2 = true := by decide +kernel
theorem nxc_bolder_2_3 : ab_cn vwCl nn_T nn_C nn_sh nn_MT (nn_KI1.map (fun x => x.1)) (nn_KJ1.map (fun x => x.1)) (nn_PF1.map (fun x => x.1)) nn_kd (nn_PS1.map (fun x => x.1)) (nn_PM1.map (fun x => x.1)) nxk_bolder_2 3 0 nn_dt200 6 nxd_bolder_2.2.1.length nxd_bolder_2.2.2.2.2 2 [] [37, 47, 48] [(47, [(0, 3, 0, 0), (0, 1, 0, 0), (0, 2, 0, 0)]), (48, [(0, 4, 0, 0), (0, 5, 0, 0)])] [nxe_bolder_2_0, nxe_bolder_2_1, nxe_bolder_2_2, nxe_bolder_2_3, nxe_bolder_2_4, nxe_bolder_2_5, nxe_bolder_2_6, nxe_bolder_2_7] nxn_bolder_2 21 nxm_bolder_2_3 = true := by decide +kernel
theorem nxc_bolder_2_4 : ab_cn vwCl nn_T nn_C nn_sh nn_MT (nn_KI1.map (fun x => x.1)) (nn_KJ1.map (fun x => x.1)) (nn_PF1.map (fun x => x.1)) nn_kd (nn_PS1.map (fun x => x.1)) (nn_PM1.map (fun x => x.1)) nxk_bolder_2 3 0 nn_dt200 6 nxd_bolder_2.2.1.length nxd_bolder_2.2.2.2.2 2 [] [37, 47, 48] [(47, [(0, 3, 0, 0), (0, 1, 0, 0), (0, 2, 0, 0)]), (48, [(0, 4, 0, 0), (0, 5, 0, 0)])] [nxe_bolder_2_0, nxe_bolder_2_1, nxe_bolder_2_2, nxe_bolder_2_3, nxe_bolder_2_4, nxe_bolder_2_5, nxe_bolder_2_6, nxe_bolder_2_7] nxn_bolder_2 21 nxm_bolder_2_4 = true := by decide +kernel
theorem nxc_bolder_2_5 : ab_cn vwCl nn_T nn_C nn_sh nn_MT (nn_KI1.map (fun x => x.1)) (nn_KJ1.map (fun x => x.1)) (nn_PF1.map (fun x => x.1)) nn_kd (nn_PS1.map (fun x => x.1)) (nn_PM1.map (fun x => x.1)) nxk_bolder_2 3 0 nn_dt200 6 nxd_bolder_2.2.1.length nxd_bolder_2.2.2.2.2 2 [] [37, 47, 48] [(47, [(0, 3, 0, 0), (0, 1, 0, 0), (0, 2, 0, 0)]), (48, [(0, 4, 0, 0), (0, 5, 0, 0)])] [nxe_bolder_2_0, nxe_bolder_2_1, nxe_bolder_2_2, nxe_bolder_2_3, nxe_bolder_2_4, nxe_bolder_2_5, nxe_bolder_2_6, nxe_bolder_2_7] nxn_bolder_2 21 nxm_bolder_2_5 = true := by decide +kernel
theorem nxc_bolder_2_6 : ab_cn vwCl nn_T nn_C nn_sh nn_MT (nn_KI1.map (fun x => x.1)) (nn_KJ1.map (fun x => x.1)) (nn_PF1.map (fun x => x.1)) nn_kd (nn_PS1.map (fun x => x.1)) (nn_PM1.map (fun x => x.1)) nxk_bolder_2 3 0 nn_dt200 6 nxd_bolder_2.2.1.length nxd_bolder_2.2.2.2.2 2 [] [37, 47, 48] [(47, [(0, 3, 0, 0), (0, 1, 0, 0), (0, 2, 0, 0)]), (48, [(0, 4, 0, 0), (0, 5, 0, 0)])] [nxe_bolder_2_0, nxe_bolder_2_1, nxe_bolder_2_2, nxe_bolder_2_3, nxe_bolder_2_4, nxe_bolder_2_5, nxe_bolder_2_6, nxe_bolder_2_7] nxn_bolder_2 21 nxm_bolder_2_6 = true := by decide +kernel
theorem nxc_bolder_2_7 : ab_cn vwCl nn_T nn_C nn_sh nn_MT (nn_KI1.map (fun x => x.1)) (nn_KJ1.map (fun x => x.1)) (nn_PF1.map (fun x => x.1)) nn_kd (nn_PS1.map (fun x => x.1)) (nn_PM1.map (fun x => x.1)) nxk_bolder_2 3 0 nn_dt200 6 nxd_bolder_2.2.1.length nxd_bolder_2.2.2.2.2 2 [] [37, 47, 48] [(47, [(0, 3, 0, 0), (0, 1, 0, 0), (0, 2, 0, 0)]), (48, [(0, 4, 0, 0), (0, 5, 0, 0)])] [nxe_bolder_2_0, nxe_bolder_2_1, nxe_bolder_2_2, nxe_bolder_2_3, nxe_bolder_2_4, nxe_bolder_2_5, nxe_bolder_2_6, nxe_bolder_2_7] nxn_bolder_2 21 nxm_bolder_2_7 = true := by decide +kernel
theorem nxc_bolder_2_8 : ab_cn vwCl nn_T nn_C nn_sh nn_MT (nn_KI1.map (fun x => x.1)) (nn_KJ1.map (fun x => x.1)) (nn_PF1.map (fun x => x.1)) nn_kd (nn_PS1.map (fun x => x.1)) (nn_PM1.map (fun x => x.1)) nxk_bolder_2 3 0 nn_dt200 6 nxd_bolder_2.2.1.length nxd_bolder_2.2.2.2.2 2 [] [37, 47, 48] [(47, [(0, 3, 0, 0), (0, 1, 0, 0), (0, 2, 0, 0)]), (48, [(0, 4, 0, 0), (0, 5, 0, 0)])] [nxe_bolder_2_0, nxe_bolder_2_1, nxe_bolder_2_2, nxe_bolder_2_3, nxe_bolder_2_4, nxe_bolder_2_5, nxe_bolder_2_6, nxe_bolder_2_7] nxn_bolder_2 21 nxm_bolder_2_8 = true := by decide +kernel
theorem nxc_bolder_2_9 : ab_cn vwCl nn_T nn_C nn_sh nn_MT (nn_KI1.map (fun x => x.1)) (nn_KJ1.map (fun x => x.1)) (nn_PF1.map (fun x => x.1)) nn_kd (nn_PS1.map (fun x => x.1)) (nn_PM1.map (fun x => x.1)) nxk_bolder_2 3 0 nn_dt200 6 nxd_bolder_2.2.1.length nxd_bolder_2.2.2.2.2 2 [] [37, 47, 48] [(47, [(0, 3, 0, 0), (0, 1, 0, 0), (0, 2, 0, 0)]), (48, [(0, 4, 0, 0), (0, 5, 0, 0)])] [nxe_bolder_2_0, nxe_bolder_2_1, nxe_bolder_2_2, nxe_bolder_2_3, nxe_bolder_2_4, nxe_bolder_2_5, nxe_bolder_2_6, nxe_bolder_2_7] nxn_bolder_2 21 nxm_bolder_2_9 = true := by decide +kernel
theorem nxc_bolder_2 : nxn_bolder_2.all (ab_cn vwCl nn_T nn_C nn_sh nn_MT (nn_KI1.map (fun x => x.1)) (nn_KJ1.map (fun x => x.1)) (nn_PF1.map (fun x => x.1)) nn_kd (nn_PS1.map (fun x => x.1)) (nn_PM1.map (fun x => x.1)) nxk_bolder_2 3 0 nn_dt200 6 nxd_bolder_2.2.1.length nxd_bolder_2.2.2.2.2 2 [] [37, 47, 48] [(47, [(0, 3, 0, 0), (0, 1, 0, 0), (0, 2, 0, 0)]), (48, [(0, 4, 0, 0), (0, 5, 0, 0)])] [nxe_bolder_2_0, nxe_bolder_2_1, nxe_bolder_2_2, nxe_bolder_2_3, nxe_bolder_2_4, nxe_bolder_2_5, nxe_bolder_2_6, nxe_bolder_2_7] nxn_bolder_2 21) = true := List.all_eq_true.mpr (List.forall_mem_cons.mpr ⟨nxc_bolder_2_0, List.forall_mem_cons.mpr ⟨nxc_bolder_2_1, List.forall_mem_cons.mpr ⟨nxc_bolder_2_2, List.forall_mem_cons.mpr ⟨nxc_bolder_2_3, List.forall_mem_cons.mpr ⟨nxc_bolder_2_4, List.forall_mem_cons.mpr ⟨nxc_bolder_2_5, List.forall_mem_cons.mpr ⟨nxc_bolder_2_6, List.forall_mem_cons.mpr ⟨nxc_bolder_2_7, List.forall_mem_cons.mpr ⟨nxc_bolder_2_8, List.forall_mem_cons.mpr ⟨nxc_bolder_2_9, fun _ h => absurd h List.not_mem_nil⟩⟩⟩⟩⟩⟩⟩⟩⟩⟩)
set_option maxHeartbeats 4000000 in
theorem nxt_bolder_2 (l : Launch) (htr : l.stackTraces = false) (cy : Nat → ClassId) (ad wr cr : Nat → Nat) (D : va_G) (hinj : nn_inj ad) : nx_H l cy ad wr cr D (200, 3, nxd_bolder_2, nxo_bolder_2) := by
  refine nx_holdW (mr := (⟨"NameNotes", "bolder", "(IIIII)J"⟩, prog_1_method_37_code, 6, (Option.some Jvm.ClassFile.FieldType.long), 5, true, 2)) (dt := nn_dt200) (KS := nxk_bolder_2) htr hinj rfl rfl (by decide +kernel) nn_KI1_ok nn_KJ1_ok nn_PF1_ok nn_PS1_ok nn_PM1_ok (List.forall_mem_cons.mpr ⟨lf_736 l cy ad wr cr D hinj, List.forall_mem_cons.mpr ⟨lf_737 l cy ad wr cr D hinj, List.forall_mem_cons.mpr ⟨lf_738 l cy ad wr cr D hinj, List.forall_mem_cons.mpr ⟨lf_747 l cy ad wr cr D hinj, List.forall_mem_cons.mpr ⟨lf_753 l cy ad wr cr D hinj, List.forall_mem_cons.mpr ⟨lf_762 l cy ad wr cr D hinj, List.forall_mem_cons.mpr ⟨lf_766 l cy ad wr cr D hinj, List.forall_mem_cons.mpr ⟨lf_768 l cy ad wr cr D hinj, List.forall_mem_cons.mpr ⟨lf_776 l cy ad wr cr D hinj, List.forall_mem_cons.mpr ⟨lf_780 l cy ad wr cr D hinj, List.forall_mem_cons.mpr ⟨lf_782 l cy ad wr cr D hinj, List.forall_mem_cons.mpr ⟨lf_786 l cy ad wr cr D hinj, List.forall_mem_cons.mpr ⟨lf_787 l cy ad wr cr D hinj, List.forall_mem_cons.mpr ⟨lf_789 l cy ad wr cr D hinj, List.forall_mem_cons.mpr ⟨lf_790 l cy ad wr cr D hinj, List.forall_mem_cons.mpr ⟨lf_792 l cy ad wr cr D hinj, List.forall_mem_cons.mpr ⟨lf_793 l cy ad wr cr D hinj, List.forall_mem_cons.mpr ⟨lf_795 l cy ad wr cr D hinj, List.forall_mem_cons.mpr ⟨lf_796 l cy ad wr cr D hinj, List.forall_mem_cons.mpr ⟨lf_798 l cy ad wr cr D hinj, List.forall_mem_cons.mpr ⟨lf_799 l cy ad wr cr D hinj, List.forall_mem_cons.mpr ⟨lf_801 l cy ad wr cr D hinj, List.forall_mem_cons.mpr ⟨lf_802 l cy ad wr cr D hinj, List.forall_mem_cons.mpr ⟨lf_804 l cy ad wr cr D hinj, List.forall_mem_cons.mpr ⟨lf_805 l cy ad wr cr D hinj, List.forall_mem_cons.mpr ⟨lf_807 l cy ad wr cr D hinj, List.forall_mem_cons.mpr ⟨lf_808 l cy ad wr cr D hinj, List.forall_mem_cons.mpr ⟨lf_810 l cy ad wr cr D hinj, List.forall_mem_cons.mpr ⟨lf_811 l cy ad wr cr D hinj, List.forall_mem_cons.mpr ⟨lf_815 l cy ad wr cr D hinj, List.forall_mem_cons.mpr ⟨lf_816 l cy ad wr cr D hinj, List.forall_mem_cons.mpr ⟨lf_817 l cy ad wr cr D hinj, List.forall_mem_cons.mpr ⟨lf_818 l cy ad wr cr D hinj, List.forall_mem_cons.mpr ⟨lf_819 l cy ad wr cr D hinj, List.forall_mem_cons.mpr ⟨lf_820 l cy ad wr cr D hinj, List.forall_mem_cons.mpr ⟨lf_821 l cy ad wr cr D hinj, List.forall_mem_cons.mpr ⟨lf_822 l cy ad wr cr D hinj, List.forall_mem_cons.mpr ⟨lf_823 l cy ad wr cr D hinj, List.forall_mem_cons.mpr ⟨lf_824 l cy ad wr cr D hinj, List.forall_mem_cons.mpr ⟨lf_825 l cy ad wr cr D hinj, List.forall_mem_cons.mpr ⟨lf_826 l cy ad wr cr D hinj, List.forall_mem_cons.mpr ⟨lf_827 l cy ad wr cr D hinj, List.forall_mem_cons.mpr ⟨lf_828 l cy ad wr cr D hinj, List.forall_mem_cons.mpr ⟨lf_829 l cy ad wr cr D hinj, List.forall_mem_cons.mpr ⟨lf_830 l cy ad wr cr D hinj, List.forall_mem_cons.mpr ⟨lf_831 l cy ad wr cr D hinj, List.forall_mem_cons.mpr ⟨lf_832 l cy ad wr cr D hinj, List.forall_mem_cons.mpr ⟨lf_833 l cy ad wr cr D hinj, List.forall_mem_cons.mpr ⟨lf_834 l cy ad wr cr D hinj, List.forall_mem_cons.mpr ⟨lf_835 l cy ad wr cr D hinj, List.forall_mem_cons.mpr ⟨lf_836 l cy ad wr cr D hinj, List.forall_mem_cons.mpr ⟨lf_837 l cy ad wr cr D hinj, List.forall_mem_cons.mpr ⟨lf_838 l cy ad wr cr D hinj, List.forall_mem_cons.mpr ⟨lf_840 l cy ad wr cr D hinj, List.forall_mem_cons.mpr ⟨lf_841 l cy ad wr cr D hinj, List.forall_mem_cons.mpr ⟨lf_842 l cy ad wr cr D hinj, List.forall_mem_cons.mpr ⟨lf_843 l cy ad wr cr D hinj, List.forall_mem_cons.mpr ⟨lf_844 l cy ad wr cr D hinj, List.forall_mem_cons.mpr ⟨lf_845 l cy ad wr cr D hinj, List.forall_mem_cons.mpr ⟨lf_846 l cy ad wr cr D hinj, List.forall_mem_cons.mpr ⟨lf_847 l cy ad wr cr D hinj, List.forall_mem_cons.mpr ⟨lf_848 l cy ad wr cr D hinj, List.forall_mem_cons.mpr ⟨lf_849 l cy ad wr cr D hinj, List.forall_mem_cons.mpr ⟨lf_850 l cy ad wr cr D hinj, List.forall_mem_cons.mpr ⟨lf_851 l cy ad wr cr D hinj, List.forall_mem_cons.mpr ⟨lf_852 l cy ad wr cr D hinj, List.forall_mem_cons.mpr ⟨lf_853 l cy ad wr cr D hinj, List.forall_mem_cons.mpr ⟨lf_854 l cy ad wr cr D hinj, List.forall_mem_cons.mpr ⟨lf_855 l cy ad wr cr D hinj, List.forall_mem_cons.mpr ⟨lf_856 l cy ad wr cr D hinj, List.forall_mem_cons.mpr ⟨lf_857 l cy ad wr cr D hinj, List.forall_mem_cons.mpr ⟨lf_858 l cy ad wr cr D hinj, List.forall_mem_cons.mpr ⟨lf_859 l cy ad wr cr D hinj, List.forall_mem_cons.mpr ⟨lf_860 l cy ad wr cr D hinj, List.forall_mem_cons.mpr ⟨lf_861 l cy ad wr cr D hinj, List.forall_mem_cons.mpr ⟨lf_862 l cy ad wr cr D hinj, List.forall_mem_cons.mpr ⟨lf_863 l cy ad wr cr D hinj, List.forall_mem_cons.mpr ⟨lf_864 l cy ad wr cr D hinj, List.forall_mem_cons.mpr ⟨lf_865 l cy ad wr cr D hinj, List.forall_mem_cons.mpr ⟨lf_866 l cy ad wr cr D hinj, List.forall_mem_cons.mpr ⟨lf_867 l cy ad wr cr D hinj, List.forall_mem_cons.mpr ⟨lf_868 l cy ad wr cr D hinj, List.forall_mem_cons.mpr ⟨lf_869 l cy ad wr cr D hinj, List.forall_mem_cons.mpr ⟨lf_870 l cy ad wr cr D hinj, List.forall_mem_cons.mpr ⟨lf_871 l cy ad wr cr D hinj, List.forall_mem_cons.mpr ⟨lf_872 l cy ad wr cr D hinj, List.forall_mem_cons.mpr ⟨lf_873 l cy ad wr cr D hinj, List.forall_mem_cons.mpr ⟨lf_874 l cy ad wr cr D hinj, List.forall_mem_cons.mpr ⟨lf_875 l cy ad wr cr D hinj, List.forall_mem_cons.mpr ⟨lf_876 l cy ad wr cr D hinj, List.forall_mem_cons.mpr ⟨lf_877 l cy ad wr cr D hinj, List.forall_mem_cons.mpr ⟨lf_878 l cy ad wr cr D hinj, List.forall_mem_cons.mpr ⟨lf_879 l cy ad wr cr D hinj, List.forall_mem_cons.mpr ⟨lf_880 l cy ad wr cr D hinj, List.forall_mem_cons.mpr ⟨lf_881 l cy ad wr cr D hinj, List.forall_mem_cons.mpr ⟨lf_882 l cy ad wr cr D hinj, List.forall_mem_cons.mpr ⟨lf_883 l cy ad wr cr D hinj, List.forall_mem_cons.mpr ⟨lf_884 l cy ad wr cr D hinj, List.forall_mem_cons.mpr ⟨lf_885 l cy ad wr cr D hinj, List.forall_mem_cons.mpr ⟨lf_886 l cy ad wr cr D hinj, List.forall_mem_cons.mpr ⟨lf_887 l cy ad wr cr D hinj, List.forall_mem_cons.mpr ⟨lf_888 l cy ad wr cr D hinj, List.forall_mem_cons.mpr ⟨lf_889 l cy ad wr cr D hinj, List.forall_mem_cons.mpr ⟨lf_890 l cy ad wr cr D hinj, List.forall_mem_cons.mpr ⟨lf_891 l cy ad wr cr D hinj, List.forall_mem_cons.mpr ⟨lf_892 l cy ad wr cr D hinj, List.forall_mem_cons.mpr ⟨lf_893 l cy ad wr cr D hinj, List.forall_mem_cons.mpr ⟨lf_894 l cy ad wr cr D hinj, List.forall_mem_cons.mpr ⟨lf_895 l cy ad wr cr D hinj, List.forall_mem_cons.mpr ⟨lf_896 l cy ad wr cr D hinj, List.forall_mem_cons.mpr ⟨lf_897 l cy ad wr cr D hinj, List.forall_mem_cons.mpr ⟨lf_898 l cy ad wr cr D hinj, List.forall_mem_cons.mpr ⟨lf_899 l cy ad wr cr D hinj, List.forall_mem_cons.mpr ⟨lf_900 l cy ad wr cr D hinj, List.forall_mem_cons.mpr ⟨lf_901 l cy ad wr cr D hinj, List.forall_mem_cons.mpr ⟨lf_902 l cy ad wr cr D hinj, List.forall_mem_cons.mpr ⟨lf_903 l cy ad wr cr D hinj, List.forall_mem_cons.mpr ⟨lf_904 l cy ad wr cr D hinj, List.forall_mem_cons.mpr ⟨lf_905 l cy ad wr cr D hinj, List.forall_mem_cons.mpr ⟨lf_906 l cy ad wr cr D hinj, List.forall_mem_cons.mpr ⟨lf_907 l cy ad wr cr D hinj, List.forall_mem_cons.mpr ⟨lf_908 l cy ad wr cr D hinj, List.forall_mem_cons.mpr ⟨lf_909 l cy ad wr cr D hinj, List.forall_mem_cons.mpr ⟨lf_910 l cy ad wr cr D hinj, List.forall_mem_cons.mpr ⟨lf_911 l cy ad wr cr D hinj, List.forall_mem_cons.mpr ⟨lf_912 l cy ad wr cr D hinj, List.forall_mem_cons.mpr ⟨lf_913 l cy ad wr cr D hinj, List.forall_mem_cons.mpr ⟨lf_914 l cy ad wr cr D hinj, List.forall_mem_cons.mpr ⟨lf_915 l cy ad wr cr D hinj, List.forall_mem_cons.mpr ⟨lf_916 l cy ad wr cr D hinj, List.forall_mem_cons.mpr ⟨lf_917 l cy ad wr cr D hinj, List.forall_mem_cons.mpr ⟨lf_918 l cy ad wr cr D hinj, fun _ h => absurd h List.not_mem_nil⟩⟩⟩⟩⟩⟩⟩⟩⟩⟩⟩⟩⟩⟩⟩⟩⟩⟩⟩⟩⟩⟩⟩⟩⟩⟩⟩⟩⟩⟩⟩⟩⟩⟩⟩⟩⟩⟩⟩⟩⟩⟩⟩⟩⟩⟩⟩⟩⟩⟩⟩⟩⟩⟩⟩⟩⟩⟩⟩⟩⟩⟩⟩⟩⟩⟩⟩⟩⟩⟩⟩⟩⟩⟩⟩⟩⟩⟩⟩⟩⟩⟩⟩⟩⟩⟩⟩⟩⟩⟩⟩⟩⟩⟩⟩⟩⟩⟩⟩⟩⟩⟩⟩⟩⟩⟩⟩⟩⟩⟩⟩⟩⟩⟩⟩⟩⟩⟩⟩⟩⟩⟩⟩⟩⟩⟩⟩⟩⟩⟩⟩⟩) ?_
  intro p e s m below meth c R Q ρ σ hE hK hsy hP hRT hTH
  refine ab_entry (lev := 3) (sp := []) (HD := [37, 47, 48]) (HN := [(47, [(0, 3, 0, 0), (0, 1, 0, 0), (0, 2, 0, 0)]), (48, [(0, 4, 0, 0), (0, 5, 0, 0)])]) (EX := [nxe_bolder_2_0, nxe_bolder_2_1, nxe_bolder_2_2, nxe_bolder_2_3, nxe_bolder_2_4, nxe_bolder_2_5, nxe_bolder_2_6, nxe_bolder_2_7]) (NS := nxn_bolder_2) (fuel := 21) (mu := ((9000000000000000000000, [], []), (0, [], []), (0, [], []))) hE (by decide +kernel) hK hsy hP List.mem_cons_self hRT ?_ (fun nd hnd => List.all_eq_true.mp nxc_bolder_2 nd hnd)
  intro nd hnd ρ2 σ2 H locs ls st hG
  rcases List.mem_cons.mp hnd with rfl | hnd
  · exact hTH 37 _ ρ2 σ2 H locs ls st 213 "no such ones" 5 (by decide +kernel) rfl (by decide +kernel) (show decode prog_1_method_37_code 37 = .ok (.new 211, 3) by decide +kernel) (show decode prog_1_method_37_code 40 = .ok (.dup, 1) by decide +kernel) (Or.inl ⟨(show decode prog_1_method_37_code 41 = .ok (.ldc 213, 2) by decide +kernel), (show decode prog_1_method_37_code 43 = .ok (.invokespecial 215, 3) by decide +kernel), (show decode prog_1_method_37_code 46 = .ok (.athrow, 1) by decide +kernel)⟩) hG
  rcases List.mem_cons.mp hnd with rfl | hnd
  · exact hTH 37 _ ρ2 σ2 H locs ls st 213 "no such ones" 5 (by decide +kernel) rfl (by decide +kernel) (show decode prog_1_method_37_code 37 = .ok (.new 211, 3) by decide +kernel) (show decode prog_1_method_37_code 40 = .ok (.dup, 1) by decide +kernel) (Or.inl ⟨(show decode prog_1_method_37_code 41 = .ok (.ldc 213, 2) by decide +kernel), (show decode prog_1_method_37_code 43 = .ok (.invokespecial 215, 3) by decide +kernel), (show decode prog_1_method_37_code 46 = .ok (.athrow, 1) by decide +kernel)⟩) hG
  rcases List.mem_cons.mp hnd with rfl | hnd
  · exact hTH 37 _ ρ2 σ2 H locs ls st 213 "no such ones" 5 (by decide +kernel) rfl (by decide +kernel) (show decode prog_1_method_37_code 37 = .ok (.new 211, 3) by decide +kernel) (show decode prog_1_method_37_code 40 = .ok (.dup, 1) by decide +kernel) (Or.inl ⟨(show decode prog_1_method_37_code 41 = .ok (.ldc 213, 2) by decide +kernel), (show decode prog_1_method_37_code 43 = .ok (.invokespecial 215, 3) by decide +kernel), (show decode prog_1_method_37_code 46 = .ok (.athrow, 1) by decide +kernel)⟩) hG
  rcases List.mem_cons.mp hnd with rfl | hnd
  · exact hTH 37 _ ρ2 σ2 H locs ls st 213 "no such ones" 5 (by decide +kernel) rfl (by decide +kernel) (show decode prog_1_method_37_code 37 = .ok (.new 211, 3) by decide +kernel) (show decode prog_1_method_37_code 40 = .ok (.dup, 1) by decide +kernel) (Or.inl ⟨(show decode prog_1_method_37_code 41 = .ok (.ldc 213, 2) by decide +kernel), (show decode prog_1_method_37_code 43 = .ok (.invokespecial 215, 3) by decide +kernel), (show decode prog_1_method_37_code 46 = .ok (.athrow, 1) by decide +kernel)⟩) hG
  rcases List.mem_cons.mp hnd with rfl | hnd
  · exact hTH 37 _ ρ2 σ2 H locs ls st 213 "no such ones" 5 (by decide +kernel) rfl (by decide +kernel) (show decode prog_1_method_37_code 37 = .ok (.new 211, 3) by decide +kernel) (show decode prog_1_method_37_code 40 = .ok (.dup, 1) by decide +kernel) (Or.inl ⟨(show decode prog_1_method_37_code 41 = .ok (.ldc 213, 2) by decide +kernel), (show decode prog_1_method_37_code 43 = .ok (.invokespecial 215, 3) by decide +kernel), (show decode prog_1_method_37_code 46 = .ok (.athrow, 1) by decide +kernel)⟩) hG
  rcases List.mem_cons.mp hnd with rfl | hnd
  · exact hTH 37 _ ρ2 σ2 H locs ls st 213 "no such ones" 5 (by decide +kernel) rfl (by decide +kernel) (show decode prog_1_method_37_code 37 = .ok (.new 211, 3) by decide +kernel) (show decode prog_1_method_37_code 40 = .ok (.dup, 1) by decide +kernel) (Or.inl ⟨(show decode prog_1_method_37_code 41 = .ok (.ldc 213, 2) by decide +kernel), (show decode prog_1_method_37_code 43 = .ok (.invokespecial 215, 3) by decide +kernel), (show decode prog_1_method_37_code 46 = .ok (.athrow, 1) by decide +kernel)⟩) hG
  rcases List.mem_cons.mp hnd with rfl | hnd
  · exact hTH 37 _ ρ2 σ2 H locs ls st 213 "no such ones" 5 (by decide +kernel) rfl (by decide +kernel) (show decode prog_1_method_37_code 37 = .ok (.new 211, 3) by decide +kernel) (show decode prog_1_method_37_code 40 = .ok (.dup, 1) by decide +kernel) (Or.inl ⟨(show decode prog_1_method_37_code 41 = .ok (.ldc 213, 2) by decide +kernel), (show decode prog_1_method_37_code 43 = .ok (.invokespecial 215, 3) by decide +kernel), (show decode prog_1_method_37_code 46 = .ok (.athrow, 1) by decide +kernel)⟩) hG
  rcases List.mem_cons.mp hnd with rfl | hnd
  · exact hTH 37 _ ρ2 σ2 H locs ls st 213 "no such ones" 5 (by decide +kernel) rfl (by decide +kernel) (show decode prog_1_method_37_code 37 = .ok (.new 211, 3) by decide +kernel) (show decode prog_1_method_37_code 40 = .ok (.dup, 1) by decide +kernel) (Or.inl ⟨(show decode prog_1_method_37_code 41 = .ok (.ldc 213, 2) by decide +kernel), (show decode prog_1_method_37_code 43 = .ok (.invokespecial 215, 3) by decide +kernel), (show decode prog_1_method_37_code 46 = .ok (.athrow, 1) by decide +kernel)⟩) hG
  exact absurd hnd List.not_mem_nil
/-- NameNotes.bolder_3 -/
def nxd_bolder_3 : ab_CN := ([(2, 0, 0), (0, 1, 0), (0, 2, 0), (0, 3, 0), (0, 4, 0), (0, 5, 0)], [(0, 0), ((-2147483648), 2147483647), ((-2147483648), 2147483647), (2, 2), ((-2147483648), 2147483647), ((-2147483648), 2147483647)], [], [], [([(1, 0, 1)], [(0, 0), (2, 2), (2, 2), (2, 2), (9, 9), (1, 1)], [], [], [(90, 1000000), (91, 1000000)]),
    ([(1, 0, 1)], [(0, 0), (2, 2), (2, 2), (2, 2), (9, 9), (0, 0)], [], [], [(90, 1000000), (91, 1000000)]),
    ([(1, 0, 9)], [(0, 0), (2, 2), (2, 2), (2, 2), (8, 8), (1, 1)], [], [], [(90, 1000000), (91, 1000000)]),
    ([(1, 0, 8)], [(0, 0), (2, 2), (2, 2), (2, 2), (8, 8), (0, 0)], [], [], [(90, 1000000), (91, 1000000)]),
    ([(1, 0, 9)], [(0, 0), (2, 2), (2, 2), (2, 2), (7, 7), (1, 1)], [], [], [(90, 1000000), (91, 1000000)]),
    ([(1, 0, 7)], [(0, 0), (2, 2), (2, 2), (2, 2), (7, 7), (0, 0)], [], [], [(90, 1000000), (91, 1000000)]),
    ([(1, 0, 3)], [(0, 0), (2, 2), (2, 2), (2, 2), (6, 6), (1, 1)], [], [], [(90, 1000000), (91, 1000000)]),
    ([(1, 0, 2)], [(0, 0), (2, 2), (2, 2), (2, 2), (6, 6), (0, 0)], [], [], [(90, 1000000), (91, 1000000)]),
    ([(1, 0, 9)], [(0, 0), (2, 2), (2, 2), (2, 2), (5, 5), (1, 1)], [], [], [(90, 1000000), (91, 1000000)]),
    ([(1, 0, 5)], [(0, 0), (2, 2), (2, 2), (2, 2), (5, 5), (0, 0)], [], [], [(90, 1000000), (91, 1000000)]),
    ([(1, 0, 9)], [(0, 0), (2, 2), (2, 2), (2, 2), (4, 4), (1, 1)], [], [], [(90, 1000000), (91, 1000000)]),
    ([(1, 0, 4)], [(0, 0), (2, 2), (2, 2), (2, 2), (4, 4), (0, 0)], [], [], [(90, 1000000), (91, 1000000)]),
    ([(1, 0, 3)], [(0, 0), (2, 2), (2, 2), (2, 2), (3, 3), (1, 1)], [], [], [(90, 1000000), (91, 1000000)]),
    ([(1, 0, 1)], [(0, 0), (2, 2), (2, 2), (2, 2), (3, 3), (0, 0)], [], [], [(90, 1000000), (91, 1000000)]),
    ([(1, 0, 9)], [(0, 0), (2, 2), (2, 2), (2, 2), (2, 2), (1, 1)], [], [], [(90, 1000000), (91, 1000000)]),
    ([(1, 0, 2)], [(0, 0), (2, 2), (2, 2), (2, 2), (2, 2), (0, 0)], [], [], [(90, 1000000), (91, 1000000)]),
    ([(1, 0, 9)], [(0, 0), (2, 2), (2, 2), (2, 2), (1, 1), (1, 1)], [], [], [(90, 1000000), (91, 1000000)]),
    ([(1, 0, 2)], [(0, 0), (2, 2), (2, 2), (2, 2), (1, 1), (0, 0)], [], [], [(90, 1000000), (91, 1000000)]),
    ([(1, 0, 9)], [(0, 0), (2, 2), (2, 2), (2, 2), (0, 0), (1, 1)], [], [], [(90, 1000000), (91, 1000000)]),
    ([(1, 0, 2)], [(0, 0), (2, 2), (2, 2), (2, 2), (0, 0), (0, 0)], [], [], [(90, 1000000), (91, 1000000)]),
    ([(1, 0, 1)], [(0, 0), (2, 2), (1, 1), (2, 2), (9, 9), (1, 1)], [], [], [(90, 1000000), (91, 1000000)]),
    ([(1, 0, 1)], [(0, 0), (2, 2), (1, 1), (2, 2), (9, 9), (0, 0)], [], [], [(90, 1000000), (91, 1000000)]),
    ([(1, 0, 81)], [(0, 0), (2, 2), (1, 1), (2, 2), (8, 8), (1, 1)], [], [], [(90, 1000000), (91, 1000000)]),
    ([(1, 0, 74)], [(0, 0), (2, 2), (1, 1), (2, 2), (8, 8), (0, 0)], [], [], [(90, 1000000), (91, 1000000)]),
    ([(1, 0, 81)], [(0, 0), (2, 2), (1, 1), (2, 2), (7, 7), (1, 1)], [], [], [(90, 1000000), (91, 1000000)]),
    ([(1, 0, 67)], [(0, 0), (2, 2), (1, 1), (2, 2), (7, 7), (0, 0)], [], [], [(90, 1000000), (91, 1000000)]),
    ([(1, 0, 27)], [(0, 0), (2, 2), (1, 1), (2, 2), (6, 6), (1, 1)], [], [], [(90, 1000000), (91, 1000000)]),
    ([(1, 0, 20)], [(0, 0), (2, 2), (1, 1), (2, 2), (6, 6), (0, 0)], [], [], [(90, 1000000), (91, 1000000)]),
    ([(1, 0, 81)], [(0, 0), (2, 2), (1, 1), (2, 2), (5, 5), (1, 1)], [], [], [(90, 1000000), (91, 1000000)]),
    ([(1, 0, 53)], [(0, 0), (2, 2), (1, 1), (2, 2), (5, 5), (0, 0)], [], [], [(90, 1000000), (91, 1000000)]),
    ([(1, 0, 81)], [(0, 0), (2, 2), (1, 1), (2, 2), (4, 4), (1, 1)], [], [], [(90, 1000000), (91, 1000000)]),
    ([(1, 0, 46)], [(0, 0), (2, 2), (1, 1), (2, 2), (4, 4), (0, 0)], [], [], [(90, 1000000), (91, 1000000)]),
    ([(1, 0, 27)], [(0, 0), (2, 2), (1, 1), (2, 2), (3, 3), (1, 1)], [], [], [(90, 1000000), (91, 1000000)]),
    ([(1, 0, 13)], [(0, 0), (2, 2), (1, 1), (2, 2), (3, 3), (0, 0)], [], [], [(90, 1000000), (91, 1000000)]),
    ([(1, 0, 81)], [(0, 0), (2, 2), (1, 1), (2, 2), (2, 2), (1, 1)], [], [], [(90, 1000000), (91, 1000000)]),
    ([(1, 0, 32)], [(0, 0), (2, 2), (1, 1), (2, 2), (2, 2), (0, 0)], [], [], [(90, 1000000), (91, 1000000)]),
    ([(1, 0, 81)], [(0, 0), (2, 2), (1, 1), (2, 2), (1, 1), (1, 1)], [], [], [(90, 1000000), (91, 1000000)]),
    ([(1, 0, 32)], [(0, 0), (2, 2), (1, 1), (2, 2), (1, 1), (0, 0)], [], [], [(90, 1000000), (91, 1000000)]),
    ([(1, 0, 81)], [(0, 0), (2, 2), (1, 1), (2, 2), (0, 0), (1, 1)], [], [], [(90, 1000000), (91, 1000000)]),
    ([(1, 0, 32)], [(0, 0), (2, 2), (1, 1), (2, 2), (0, 0), (0, 0)], [], [], [(90, 1000000), (91, 1000000)]),
    ([(1, 0, 1)], [(0, 0), (2, 2), (0, 0), (2, 2), (9, 9), (1, 1)], [], [], [(90, 1000000), (91, 1000000)]),
    ([(1, 0, 1)], [(0, 0), (2, 2), (0, 0), (2, 2), (9, 9), (0, 0)], [], [], [(90, 1000000), (91, 1000000)]),
    ([(1, 0, 81)], [(0, 0), (2, 2), (0, 0), (2, 2), (8, 8), (1, 1)], [], [], [(90, 1000000), (91, 1000000)]),
    ([(1, 0, 80)], [(0, 0), (2, 2), (0, 0), (2, 2), (8, 8), (0, 0)], [], [], [(90, 1000000), (91, 1000000)]),
    ([(1, 0, 81)], [(0, 0), (2, 2), (0, 0), (2, 2), (7, 7), (1, 1)], [], [], [(90, 1000000), (91, 1000000)]),
    ([(1, 0, 77)], [(0, 0), (2, 2), (0, 0), (2, 2), (7, 7), (0, 0)], [], [], [(90, 1000000), (91, 1000000)]),
    ([(1, 0, 9)], [(0, 0), (2, 2), (0, 0), (2, 2), (6, 6), (1, 1)], [], [], [(90, 1000000), (91, 1000000)]),
    ([(1, 0, 8)], [(0, 0), (2, 2), (0, 0), (2, 2), (6, 6), (0, 0)], [], [], [(90, 1000000), (91, 1000000)]),
    ([(1, 0, 81)], [(0, 0), (2, 2), (0, 0), (2, 2), (5, 5), (1, 1)], [], [], [(90, 1000000), (91, 1000000)]),
    ([(1, 0, 65)], [(0, 0), (2, 2), (0, 0), (2, 2), (5, 5), (0, 0)], [], [], [(90, 1000000), (91, 1000000)]),
    ([(1, 0, 81)], [(0, 0), (2, 2), (0, 0), (2, 2), (4, 4), (1, 1)], [], [], [(90, 1000000), (91, 1000000)]),
    ([(1, 0, 56)], [(0, 0), (2, 2), (0, 0), (2, 2), (4, 4), (0, 0)], [], [], [(90, 1000000), (91, 1000000)]),
    ([(1, 0, 243)], [(0, 0), (2, 2), (0, 0), (2, 2), (3, 3), (1, 1)], [], [], [(90, 1000000), (91, 1000000)]),
    ([(1, 0, 145)], [(0, 0), (2, 2), (0, 0), (2, 2), (3, 3), (0, 0)], [], [], [(90, 1000000), (91, 1000000)]),
    ([(1, 0, 729)], [(0, 0), (2, 2), (0, 0), (2, 2), (2, 2), (1, 1)], [], [], [(90, 1000000), (91, 1000000)]),
    ([(1, 0, 386)], [(0, 0), (2, 2), (0, 0), (2, 2), (2, 2), (0, 0)], [], [], [(90, 1000000), (91, 1000000)]),
    ([(1, 0, 729)], [(0, 0), (2, 2), (0, 0), (2, 2), (1, 1), (1, 1)], [], [], [(90, 1000000), (91, 1000000)]),
    ([(1, 0, 386)], [(0, 0), (2, 2), (0, 0), (2, 2), (1, 1), (0, 0)], [], [], [(90, 1000000), (91, 1000000)]),
    ([(1, 0, 729)], [(0, 0), (2, 2), (0, 0), (2, 2), (0, 0), (1, 1)], [], [], [(90, 1000000), (91, 1000000)]),
    ([(1, 0, 386)], [(0, 0), (2, 2), (0, 0), (2, 2), (0, 0), (0, 0)], [], [], [(90, 1000000), (91, 1000000)]),
    ([(1, 0, 1)], [(0, 0), (1, 1), (2, 2), (2, 2), (9, 9), (1, 1)], [], [], [(90, 1000000), (91, 1000000)]),
    ([(1, 0, 1)], [(0, 0), (1, 1), (2, 2), (2, 2), (9, 9), (0, 0)], [], [], [(90, 1000000), (91, 1000000)]),
    ([(1, 0, 9)], [(0, 0), (1, 1), (2, 2), (2, 2), (8, 8), (1, 1)], [], [], [(90, 1000000), (91, 1000000)]),
    ([(1, 0, 8)], [(0, 0), (1, 1), (2, 2), (2, 2), (8, 8), (0, 0)], [], [], [(90, 1000000), (91, 1000000)]),
    ([(1, 0, 9)], [(0, 0), (1, 1), (2, 2), (2, 2), (7, 7), (1, 1)], [], [], [(90, 1000000), (91, 1000000)]),
    ([(1, 0, 7)], [(0, 0), (1, 1), (2, 2), (2, 2), (7, 7), (0, 0)], [], [], [(90, 1000000), (91, 1000000)]),
    ([(1, 0, 3)], [(0, 0), (1, 1), (2, 2), (2, 2), (6, 6), (1, 1)], [], [], [(90, 1000000), (91, 1000000)]),
    ([(1, 0, 2)], [(0, 0), (1, 1), (2, 2), (2, 2), (6, 6), (0, 0)], [], [], [(90, 1000000), (91, 1000000)]),
    ([(1, 0, 9)], [(0, 0), (1, 1), (2, 2), (2, 2), (5, 5), (1, 1)], [], [], [(90, 1000000), (91, 1000000)]),
    ([(1, 0, 5)], [(0, 0), (1, 1), (2, 2), (2, 2), (5, 5), (0, 0)], [], [], [(90, 1000000), (91, 1000000)]),
    ([(1, 0, 9)], [(0, 0), (1, 1), (2, 2), (2, 2), (4, 4), (1, 1)], [], [], [(90, 1000000), (91, 1000000)]),
    ([(1, 0, 4)], [(0, 0), (1, 1), (2, 2), (2, 2), (4, 4), (0, 0)], [], [], [(90, 1000000), (91, 1000000)]),
    ([(1, 0, 3)], [(0, 0), (1, 1), (2, 2), (2, 2), (3, 3), (1, 1)], [], [], [(90, 1000000), (91, 1000000)]),
    ([(1, 0, 1)], [(0, 0), (1, 1), (2, 2), (2, 2), (3, 3), (0, 0)], [], [], [(90, 1000000), (91, 1000000)]),
    ([(1, 0, 9)], [(0, 0), (1, 1), (2, 2), (2, 2), (2, 2), (1, 1)], [], [], [(90, 1000000), (91, 1000000)]),
    ([(1, 0, 2)], [(0, 0), (1, 1), (2, 2), (2, 2), (2, 2), (0, 0)], [], [], [(90, 1000000), (91, 1000000)]),
    ([(1, 0, 9)], [(0, 0), (1, 1), (2, 2), (2, 2), (1, 1), (1, 1)], [], [], [(90, 1000000), (91, 1000000)]),
    ([(1, 0, 1)], [(0, 0), (1, 1), (2, 2), (2, 2), (1, 1), (0, 0)], [], [], [(90, 1000000), (91, 1000000)]),
    ([(1, 0, 81)], [(0, 0), (1, 1), (2, 2), (2, 2), (0, 0), (1, 1)], [], [], [(90, 1000000), (91, 1000000)]),
    ([(1, 0, 4)], [(0, 0), (1, 1), (2, 2), (2, 2), (0, 0), (0, 0)], [], [], [(90, 1000000), (91, 1000000)]),
    ([(1, 0, 1)], [(0, 0), (1, 1), (1, 1), (2, 2), (9, 9), (1, 1)], [], [], [(90, 1000000), (91, 1000000)]),
    ([(1, 0, 1)], [(0, 0), (1, 1), (1, 1), (2, 2), (9, 9), (0, 0)], [], [], [(90, 1000000), (91, 1000000)]),
    ([(1, 0, 729)], [(0, 0), (1, 1), (1, 1), (2, 2), (8, 8), (1, 1)], [], [], [(90, 1000000), (91, 1000000)]),
    ([(1, 0, 652)], [(0, 0), (1, 1), (1, 1), (2, 2), (8, 8), (0, 0)], [], [], [(90, 1000000), (91, 1000000)]),
    ([(1, 0, 729)], [(0, 0), (1, 1), (1, 1), (2, 2), (7, 7), (1, 1)], [], [], [(90, 1000000), (91, 1000000)]),
    ([(1, 0, 575)], [(0, 0), (1, 1), (1, 1), (2, 2), (7, 7), (0, 0)], [], [], [(90, 1000000), (91, 1000000)]),
    ([(1, 0, 243)], [(0, 0), (1, 1), (1, 1), (2, 2), (6, 6), (1, 1)], [], [], [(90, 1000000), (91, 1000000)]),
    ([(1, 0, 166)], [(0, 0), (1, 1), (1, 1), (2, 2), (6, 6), (0, 0)], [], [], [(90, 1000000), (91, 1000000)]),
    ([(1, 0, 729)], [(0, 0), (1, 1), (1, 1), (2, 2), (5, 5), (1, 1)], [], [], [(90, 1000000), (91, 1000000)]),
    ([(1, 0, 421)], [(0, 0), (1, 1), (1, 1), (2, 2), (5, 5), (0, 0)], [], [], [(90, 1000000), (91, 1000000)]),
    ([(1, 0, 729)], [(0, 0), (1, 1), (1, 1), (2, 2), (4, 4), (1, 1)], [], [], [(90, 1000000), (91, 1000000)]),
    ([(1, 0, 344)], [(0, 0), (1, 1), (1, 1), (2, 2), (4, 4), (0, 0)], [], [], [(90, 1000000), (91, 1000000)]),
    ([(1, 0, 243)], [(0, 0), (1, 1), (1, 1), (2, 2), (3, 3), (1, 1)], [], [], [(90, 1000000), (91, 1000000)]),
    ([(1, 0, 89)], [(0, 0), (1, 1), (1, 1), (2, 2), (3, 3), (0, 0)], [], [], [(90, 1000000), (91, 1000000)]),
    ([(1, 0, 729)], [(0, 0), (1, 1), (1, 1), (2, 2), (2, 2), (1, 1)], [], [], [(90, 1000000), (91, 1000000)]),
    ([(1, 0, 190)], [(0, 0), (1, 1), (1, 1), (2, 2), (2, 2), (0, 0)], [], [], [(90, 1000000), (91, 1000000)]),
    ([(1, 0, 729)], [(0, 0), (1, 1), (1, 1), (2, 2), (1, 1), (1, 1)], [], [], [(90, 1000000), (91, 1000000)]),
    ([(1, 0, 127)], [(0, 0), (1, 1), (1, 1), (2, 2), (1, 1), (0, 0)], [], [], [(90, 1000000), (91, 1000000)]),
    ([(1, 0, 729)], [(0, 0), (1, 1), (1, 1), (2, 2), (0, 0), (1, 1)], [], [], [(90, 1000000), (91, 1000000)]),
    ([(1, 0, 92)], [(0, 0), (1, 1), (1, 1), (2, 2), (0, 0), (0, 0)], [], [], [(90, 1000000), (91, 1000000)]),
    ([(1, 0, 1)], [(0, 0), (1, 1), (0, 0), (2, 2), (9, 9), (1, 1)], [], [], [(90, 1000000), (91, 1000000)]),
    ([(1, 0, 1)], [(0, 0), (1, 1), (0, 0), (2, 2), (9, 9), (0, 0)], [], [], [(90, 1000000), (91, 1000000)]),
    ([(1, 0, 81)], [(0, 0), (1, 1), (0, 0), (2, 2), (8, 8), (1, 1)], [], [], [(90, 1000000), (91, 1000000)]),
    ([(1, 0, 80)], [(0, 0), (1, 1), (0, 0), (2, 2), (8, 8), (0, 0)], [], [], [(90, 1000000), (91, 1000000)]),
    ([(1, 0, 81)], [(0, 0), (1, 1), (0, 0), (2, 2), (7, 7), (1, 1)], [], [], [(90, 1000000), (91, 1000000)]),
    ([(1, 0, 77)], [(0, 0), (1, 1), (0, 0), (2, 2), (7, 7), (0, 0)], [], [], [(90, 1000000), (91, 1000000)]),
    ([(1, 0, 9)], [(0, 0), (1, 1), (0, 0), (2, 2), (6, 6), (1, 1)], [], [], [(90, 1000000), (91, 1000000)]),
    ([(1, 0, 8)], [(0, 0), (1, 1), (0, 0), (2, 2), (6, 6), (0, 0)], [], [], [(90, 1000000), (91, 1000000)]),
    ([(1, 0, 81)], [(0, 0), (1, 1), (0, 0), (2, 2), (5, 5), (1, 1)], [], [], [(90, 1000000), (91, 1000000)]),
    ([(1, 0, 65)], [(0, 0), (1, 1), (0, 0), (2, 2), (5, 5), (0, 0)], [], [], [(90, 1000000), (91, 1000000)]),
    ([(1, 0, 81)], [(0, 0), (1, 1), (0, 0), (2, 2), (4, 4), (1, 1)], [], [], [(90, 1000000), (91, 1000000)]),
    ([(1, 0, 56)], [(0, 0), (1, 1), (0, 0), (2, 2), (4, 4), (0, 0)], [], [], [(90, 1000000), (91, 1000000)]),
    ([(1, 0, 9)], [(0, 0), (1, 1), (0, 0), (2, 2), (3, 3), (1, 1)], [], [], [(90, 1000000), (91, 1000000)]),
    ([(1, 0, 5)], [(0, 0), (1, 1), (0, 0), (2, 2), (3, 3), (0, 0)], [], [], [(90, 1000000), (91, 1000000)]),
    ([(1, 0, 81)], [(0, 0), (1, 1), (0, 0), (2, 2), (2, 2), (1, 1)], [], [], [(90, 1000000), (91, 1000000)]),
    ([(1, 0, 32)], [(0, 0), (1, 1), (0, 0), (2, 2), (2, 2), (0, 0)], [], [], [(90, 1000000), (91, 1000000)]),
    ([(1, 0, 6561)], [(0, 0), (1, 1), (0, 0), (2, 2), (1, 1), (1, 1)], [], [], [(90, 1000000), (91, 1000000)]),
    ([(1, 0, 1661)], [(0, 0), (1, 1), (0, 0), (2, 2), (1, 1), (0, 0)], [], [], [(90, 1000000), (91, 1000000)]),
    ([(1, 0, 2187)], [(0, 0), (1, 1), (0, 0), (2, 2), (0, 0), (1, 1)], [], [], [(90, 1000000), (91, 1000000)]),
    ([(1, 0, 472)], [(0, 0), (1, 1), (0, 0), (2, 2), (0, 0), (0, 0)], [], [], [(90, 1000000), (91, 1000000)]),
    ([(1, 0, 1)], [(0, 0), (0, 0), (2, 2), (2, 2), (9, 9), (1, 1)], [], [], [(90, 1000000), (91, 1000000)]),
    ([(1, 0, 1)], [(0, 0), (0, 0), (2, 2), (2, 2), (9, 9), (0, 0)], [], [], [(90, 1000000), (91, 1000000)]),
    ([(1, 0, 81)], [(0, 0), (0, 0), (2, 2), (2, 2), (8, 8), (1, 1)], [], [], [(90, 1000000), (91, 1000000)]),
    ([(1, 0, 64)], [(0, 0), (0, 0), (2, 2), (2, 2), (8, 8), (0, 0)], [], [], [(90, 1000000), (91, 1000000)]),
    ([(1, 0, 81)], [(0, 0), (0, 0), (2, 2), (2, 2), (7, 7), (1, 1)], [], [], [(90, 1000000), (91, 1000000)]),
    ([(1, 0, 49)], [(0, 0), (0, 0), (2, 2), (2, 2), (7, 7), (0, 0)], [], [], [(90, 1000000), (91, 1000000)]),
    ([(1, 0, 9)], [(0, 0), (0, 0), (2, 2), (2, 2), (6, 6), (1, 1)], [], [], [(90, 1000000), (91, 1000000)]),
    ([(1, 0, 4)], [(0, 0), (0, 0), (2, 2), (2, 2), (6, 6), (0, 0)], [], [], [(90, 1000000), (91, 1000000)]),
    ([(1, 0, 81)], [(0, 0), (0, 0), (2, 2), (2, 2), (5, 5), (1, 1)], [], [], [(90, 1000000), (91, 1000000)]),
    ([(1, 0, 25)], [(0, 0), (0, 0), (2, 2), (2, 2), (5, 5), (0, 0)], [], [], [(90, 1000000), (91, 1000000)]),
    ([(1, 0, 81)], [(0, 0), (0, 0), (2, 2), (2, 2), (4, 4), (1, 1)], [], [], [(90, 1000000), (91, 1000000)]),
    ([(1, 0, 16)], [(0, 0), (0, 0), (2, 2), (2, 2), (4, 4), (0, 0)], [], [], [(90, 1000000), (91, 1000000)]),
    ([(1, 0, 9)], [(0, 0), (0, 0), (2, 2), (2, 2), (3, 3), (1, 1)], [], [], [(90, 1000000), (91, 1000000)]),
    ([(1, 0, 1)], [(0, 0), (0, 0), (2, 2), (2, 2), (3, 3), (0, 0)], [], [], [(90, 1000000), (91, 1000000)]),
    ([(1, 0, 81)], [(0, 0), (0, 0), (2, 2), (2, 2), (2, 2), (1, 1)], [], [], [(90, 1000000), (91, 1000000)]),
    ([(1, 0, 4)], [(0, 0), (0, 0), (2, 2), (2, 2), (2, 2), (0, 0)], [], [], [(90, 1000000), (91, 1000000)]),
    ([(1, 0, 81)], [(0, 0), (0, 0), (2, 2), (2, 2), (1, 1), (1, 1)], [], [], [(90, 1000000), (91, 1000000)]),
    ([(1, 0, 2)], [(0, 0), (0, 0), (2, 2), (2, 2), (1, 1), (0, 0)], [], [], [(90, 1000000), (91, 1000000)]),
    ([(1, 0, 729)], [(0, 0), (0, 0), (2, 2), (2, 2), (0, 0), (1, 1)], [], [], [(90, 1000000), (91, 1000000)]),
    ([(1, 0, 8)], [(0, 0), (0, 0), (2, 2), (2, 2), (0, 0), (0, 0)], [], [], [(90, 1000000), (91, 1000000)]),
    ([(1, 0, 1)], [(0, 0), (0, 0), (1, 1), (2, 2), (9, 9), (1, 1)], [], [], [(90, 1000000), (91, 1000000)]),
    ([(1, 0, 1)], [(0, 0), (0, 0), (1, 1), (2, 2), (9, 9), (0, 0)], [], [], [(90, 1000000), (91, 1000000)]),
    ([(1, 0, 6561)], [(0, 0), (0, 0), (1, 1), (2, 2), (8, 8), (1, 1)], [], [], [(90, 1000000), (91, 1000000)]),
    ([(1, 0, 5336)], [(0, 0), (0, 0), (1, 1), (2, 2), (8, 8), (0, 0)], [], [], [(90, 1000000), (91, 1000000)]),
    ([(1, 0, 6561)], [(0, 0), (0, 0), (1, 1), (2, 2), (7, 7), (1, 1)], [], [], [(90, 1000000), (91, 1000000)]),
    ([(1, 0, 4237)], [(0, 0), (0, 0), (1, 1), (2, 2), (7, 7), (0, 0)], [], [], [(90, 1000000), (91, 1000000)]),
    ([(1, 0, 2187)], [(0, 0), (0, 0), (1, 1), (2, 2), (6, 6), (1, 1)], [], [], [(90, 1000000), (91, 1000000)]),
    ([(1, 0, 1088)], [(0, 0), (0, 0), (1, 1), (2, 2), (6, 6), (0, 0)], [], [], [(90, 1000000), (91, 1000000)]),
    ([(1, 0, 6561)], [(0, 0), (0, 0), (1, 1), (2, 2), (5, 5), (1, 1)], [], [], [(90, 1000000), (91, 1000000)]),
    ([(1, 0, 2417)], [(0, 0), (0, 0), (1, 1), (2, 2), (5, 5), (0, 0)], [], [], [(90, 1000000), (91, 1000000)]),
    ([(1, 0, 6561)], [(0, 0), (0, 0), (1, 1), (2, 2), (4, 4), (1, 1)], [], [], [(90, 1000000), (91, 1000000)]),
    ([(1, 0, 1696)], [(0, 0), (0, 0), (1, 1), (2, 2), (4, 4), (0, 0)], [], [], [(90, 1000000), (91, 1000000)]),
    ([(1, 0, 2187)], [(0, 0), (0, 0), (1, 1), (2, 2), (3, 3), (1, 1)], [], [], [(90, 1000000), (91, 1000000)]),
    ([(1, 0, 367)], [(0, 0), (0, 0), (1, 1), (2, 2), (3, 3), (0, 0)], [], [], [(90, 1000000), (91, 1000000)]),
    ([(1, 0, 6561)], [(0, 0), (0, 0), (1, 1), (2, 2), (2, 2), (1, 1)], [], [], [(90, 1000000), (91, 1000000)]),
    ([(1, 0, 632)], [(0, 0), (0, 0), (1, 1), (2, 2), (2, 2), (0, 0)], [], [], [(90, 1000000), (91, 1000000)]),
    ([(1, 0, 6561)], [(0, 0), (0, 0), (1, 1), (2, 2), (1, 1), (1, 1)], [], [], [(90, 1000000), (91, 1000000)]),
    ([(1, 0, 380)], [(0, 0), (0, 0), (1, 1), (2, 2), (1, 1), (0, 0)], [], [], [(90, 1000000), (91, 1000000)]),
    ([(1, 0, 2187)], [(0, 0), (0, 0), (1, 1), (2, 2), (0, 0), (1, 1)], [], [], [(90, 1000000), (91, 1000000)]),
    ([(1, 0, 80)], [(0, 0), (0, 0), (1, 1), (2, 2), (0, 0), (0, 0)], [], [], [(90, 1000000), (91, 1000000)]),
    ([(1, 0, 1)], [(0, 0), (0, 0), (0, 0), (2, 2), (9, 9), (1, 1)], [], [], [(90, 1000000), (91, 1000000)]),
    ([(1, 0, 1)], [(0, 0), (0, 0), (0, 0), (2, 2), (9, 9), (0, 0)], [], [], [(90, 1000000), (91, 1000000)]),
    ([(1, 0, 729)], [(0, 0), (0, 0), (0, 0), (2, 2), (8, 8), (1, 1)], [], [], [(90, 1000000), (91, 1000000)]),
    ([(1, 0, 704)], [(0, 0), (0, 0), (0, 0), (2, 2), (8, 8), (0, 0)], [], [], [(90, 1000000), (91, 1000000)]),
    ([(1, 0, 729)], [(0, 0), (0, 0), (0, 0), (2, 2), (7, 7), (1, 1)], [], [], [(90, 1000000), (91, 1000000)]),
    ([(1, 0, 637)], [(0, 0), (0, 0), (0, 0), (2, 2), (7, 7), (0, 0)], [], [], [(90, 1000000), (91, 1000000)]),
    ([(1, 0, 27)], [(0, 0), (0, 0), (0, 0), (2, 2), (6, 6), (1, 1)], [], [], [(90, 1000000), (91, 1000000)]),
    ([(1, 0, 20)], [(0, 0), (0, 0), (0, 0), (2, 2), (6, 6), (0, 0)], [], [], [(90, 1000000), (91, 1000000)]),
    ([(1, 0, 729)], [(0, 0), (0, 0), (0, 0), (2, 2), (5, 5), (1, 1)], [], [], [(90, 1000000), (91, 1000000)]),
    ([(1, 0, 425)], [(0, 0), (0, 0), (0, 0), (2, 2), (5, 5), (0, 0)], [], [], [(90, 1000000), (91, 1000000)]),
    ([(1, 0, 729)], [(0, 0), (0, 0), (0, 0), (2, 2), (4, 4), (1, 1)], [], [], [(90, 1000000), (91, 1000000)]),
    ([(1, 0, 304)], [(0, 0), (0, 0), (0, 0), (2, 2), (4, 4), (0, 0)], [], [], [(90, 1000000), (91, 1000000)]),
    ([(1, 0, 729)], [(0, 0), (0, 0), (0, 0), (2, 2), (3, 3), (1, 1)], [], [], [(90, 1000000), (91, 1000000)]),
    ([(1, 0, 199)], [(0, 0), (0, 0), (0, 0), (2, 2), (3, 3), (0, 0)], [], [], [(90, 1000000), (91, 1000000)]),
    ([(1, 0, 59049)], [(0, 0), (0, 0), (0, 0), (2, 2), (2, 2), (1, 1)], [], [], [(90, 1000000), (91, 1000000)]),
    ([(1, 0, 9608)], [(0, 0), (0, 0), (0, 0), (2, 2), (2, 2), (0, 0)], [], [], [(90, 1000000), (91, 1000000)]),
    ([(1, 0, 19683)], [(0, 0), (0, 0), (0, 0), (2, 2), (1, 1), (1, 1)], [], [], [(90, 1000000), (91, 1000000)]),
    ([(1, 0, 1994)], [(0, 0), (0, 0), (0, 0), (2, 2), (1, 1), (0, 0)], [], [], [(90, 1000000), (91, 1000000)]),
    ([(1, 0, 19683)], [(0, 0), (0, 0), (0, 0), (2, 2), (0, 0), (1, 1)], [], [], [(90, 1000000), (91, 1000000)]),
    ([(1, 0, 1504)], [(0, 0), (0, 0), (0, 0), (2, 2), (0, 0), (0, 0)], [], [], [(90, 1000000), (91, 1000000)])])
def nxo_bolder_3 : List ab_OU := [([], [(0, 0), ((-2147483648), (-1)), ((-2147483648), 2147483647), (2, 2), ((-2147483648), 2147483647), ((-2147483648), 2147483647)], [], [], []),
    ([], [(0, 0), (3, 2147483647), ((-2147483648), 2147483647), (2, 2), ((-2147483648), 2147483647), ((-2147483648), 2147483647)], [], [], []),
    ([], [(0, 0), (0, 2), ((-2147483648), (-1)), (2, 2), ((-2147483648), 2147483647), ((-2147483648), 2147483647)], [], [], []),
    ([], [(0, 0), (0, 2), (3, 2147483647), (2, 2), ((-2147483648), 2147483647), ((-2147483648), 2147483647)], [], [], []),
    ([], [(0, 0), (0, 2), (0, 2), (2, 2), ((-2147483648), (-1)), ((-2147483648), 2147483647)], [], [], []),
    ([], [(0, 0), (0, 2), (0, 2), (2, 2), (10, 2147483647), ((-2147483648), 2147483647)], [], [], []),
    ([], [(0, 0), (0, 2), (0, 2), (2, 2), (0, 9), ((-2147483648), (-1))], [], [], []),
    ([], [(0, 0), (0, 2), (0, 2), (2, 2), (0, 9), (2, 2147483647)], [], [], [])]
def nxe_bolder_3_0 : ab_ND := (37, ([(0, (2, 0, 0)), (1, (0, 1, 0)), (2, (0, 2, 0)), (3, (0, 3, 0)), (4, (0, 4, 0)), (5, (0, 5, 0))], [], [(0, 0), ((-2147483648), (-1)), ((-2147483648), 2147483647), (2, 2), ((-2147483648), 2147483647), ((-2147483648), 2147483647)], [], [], []), ((0, [], []), (0, [], []), (0, [], [])))
def nxe_bolder_3_1 : ab_ND := (37, ([(0, (2, 0, 0)), (1, (0, 1, 0)), (2, (0, 2, 0)), (3, (0, 3, 0)), (4, (0, 4, 0)), (5, (0, 5, 0))], [], [(0, 0), (3, 2147483647), ((-2147483648), 2147483647), (2, 2), ((-2147483648), 2147483647), ((-2147483648), 2147483647)], [], [], []), ((0, [], []), (0, [], []), (0, [], [])))
def nxe_bolder_3_2 : ab_ND := (37, ([(0, (2, 0, 0)), (1, (0, 1, 0)), (2, (0, 2, 0)), (3, (0, 3, 0)), (4, (0, 4, 0)), (5, (0, 5, 0))], [], [(0, 0), (0, 2), ((-2147483648), (-1)), (2, 2), ((-2147483648), 2147483647), ((-2147483648), 2147483647)], [], [], []), ((0, [], []), (0, [], []), (0, [], [])))
def nxe_bolder_3_3 : ab_ND := (37, ([(0, (2, 0, 0)), (1, (0, 1, 0)), (2, (0, 2, 0)), (3, (0, 3, 0)), (4, (0, 4, 0)), (5, (0, 5, 0))], [], [(0, 0), (0, 2), (3, 2147483647), (2, 2), ((-2147483648), 2147483647), ((-2147483648), 2147483647)], [], [], []), ((0, [], []), (0, [], []), (0, [], [])))
def nxe_bolder_3_4 : ab_ND := (37, ([(0, (2, 0, 0)), (1, (0, 1, 0)), (2, (0, 2, 0)), (3, (0, 3, 0)), (4, (0, 4, 0)), (5, (0, 5, 0))], [], [(0, 0), (0, 2), (0, 2), (2, 2), ((-2147483648), (-1)), ((-2147483648), 2147483647)], [], [], []), ((0, [], []), (0, [], []), (0, [], [])))
def nxe_bolder_3_5 : ab_ND := (37, ([(0, (2, 0, 0)), (1, (0, 1, 0)), (2, (0, 2, 0)), (3, (0, 3, 0)), (4, (0, 4, 0)), (5, (0, 5, 0))], [], [(0, 0), (0, 2), (0, 2), (2, 2), (10, 2147483647), ((-2147483648), 2147483647)], [], [], []), ((0, [], []), (0, [], []), (0, [], [])))
def nxe_bolder_3_6 : ab_ND := (37, ([(0, (2, 0, 0)), (1, (0, 1, 0)), (2, (0, 2, 0)), (3, (0, 3, 0)), (4, (0, 4, 0)), (5, (0, 5, 0))], [], [(0, 0), (0, 2), (0, 2), (2, 2), (0, 9), ((-2147483648), (-1))], [], [], []), ((0, [], []), (0, [], []), (0, [], [])))
def nxe_bolder_3_7 : ab_ND := (37, ([(0, (2, 0, 0)), (1, (0, 1, 0)), (2, (0, 2, 0)), (3, (0, 3, 0)), (4, (0, 4, 0)), (5, (0, 5, 0))], [], [(0, 0), (0, 2), (0, 2), (2, 2), (0, 9), (2, 2147483647)], [], [], []), ((0, [], []), (0, [], []), (0, [], [])))
def nxm_bolder_3_0 : ab_ND := (0, (ab_en0 0 nxd_bolder_3.1, [], nxd_bolder_3.2.1, nxd_bolder_3.2.2.1, nxd_bolder_3.2.2.2.1, []), ((9000000000000000000000, [], []), (0, [], []), (0, [], [])))
def nxm_bolder_3_1 : ab_ND := (48, ([(0, (2, 0, 0)), (1, (0, 0, 2)), (2, (0, 0, 2)), (3, (0, 0, 2)), (4, (0, 4, 0)), (5, (0, 5, 0))], [(2, 0, 0)], [(0, 0), (2, 2), (2, 2), (2, 2), (0, 9), (0, 1)], [], [], []), ((0, [], []), (0, [], []), (0, [], [])))
def nxm_bolder_3_2 : ab_ND := (48, ([(0, (2, 0, 0)), (1, (0, 0, 2)), (2, (0, 0, 1)), (3, (0, 0, 2)), (4, (0, 4, 0)), (5, (0, 5, 0))], [(2, 0, 0)], [(0, 0), (2, 2), (1, 1), (2, 2), (0, 9), (0, 1)], [], [], []), ((1000000000000000000000, [], []), (0, [], []), (0, [], [])))
def nxm_bolder_3_3 : ab_ND := (48, ([(0, (2, 0, 0)), (1, (0, 0, 2)), (2, (0, 0, 0)), (3, (0, 0, 2)), (4, (0, 4, 0)), (5, (0, 5, 0))], [(2, 0, 0)], [(0, 0), (2, 2), (0, 0), (2, 2), (0, 9), (0, 1)], [], [], []), ((2000000000000000000000, [], []), (0, [], []), (0, [], [])))
def nxm_bolder_3_4 : ab_ND := (48, ([(0, (2, 0, 0)), (1, (0, 0, 1)), (2, (0, 0, 2)), (3, (0, 0, 2)), (4, (0, 4, 0)), (5, (0, 5, 0))], [(2, 0, 0)], [(0, 0), (1, 1), (2, 2), (2, 2), (0, 9), (0, 1)], [], [], []), ((3000000000000000000000, [], []), (0, [], []), (0, [], [])))
def nxm_bolder_3_5 : ab_ND := (48, ([(0, (2, 0, 0)), (1, (0, 0, 1)), (2, (0, 0, 1)), (3, (0, 0, 2)), (4, (0, 4, 0)), (5, (0, 5, 0))], [(2, 0, 0)], [(0, 0), (1, 1), (1, 1), (2, 2), (0, 9), (0, 1)], [], [], []), ((4000000000000000000000, [], []), (0, [], []), (0, [], [])))
def nxm_bolder_3_6 : ab_ND := (48, ([(0, (2, 0, 0)), (1, (0, 0, 1)), (2, (0, 0, 0)), (3, (0, 0, 2)), (4, (0, 4, 0)), (5, (0, 5, 0))], [(2, 0, 0)], [(0, 0), (1, 1), (0, 0), (2, 2), (0, 9), (0, 1)], [], [], []), ((5000000000000000000000, [], []), (0, [], []), (0, [], [])))
def nxm_bolder_3_7 : ab_ND := (48, ([(0, (2, 0, 0)), (1, (0, 0, 0)), (2, (0, 0, 2)), (3, (0, 0, 2)), (4, (0, 4, 0)), (5, (0, 5, 0))], [(2, 0, 0)], [(0, 0), (0, 0), (2, 2), (2, 2), (0, 9), (0, 1)], [], [], []), ((6000000000000000000000, [], []), (0, [], []), (0, [], [])))
def nxm_bolder_3_8 : ab_ND := (48, ([(0, (2, 0, 0)), (1, (0, 0, 0)), (2, (0, 0, 1)), (3, (0, 0, 2)), (4, (0, 4, 0)), (5, (0, 5, 0))], [(2, 0, 0)], [(0, 0), (0, 0), (1, 1), (2, 2), (0, 9), (0, 1)], [], [], []), ((7000000000000000000000, [], []), (0, [], []), (0, [], [])))
def nxm_bolder_3_9 : ab_ND := (48, ([(0, (2, 0, 0)), (1, (0, 0, 0)), (2, (0, 0, 0)), (3, (0, 0, 2)), (4, (0, 4, 0)), (5, (0, 5, 0))], [(2, 0, 0)], [(0, 0), (0, 0), (0, 0), (2, 2), (0, 9), (0, 1)], [], [], []), ((8000000000000000000000, [], []), (0, [], []), (0, [], [])))
def nxn_bolder_3 : List ab_ND := [nxm_bolder_3_0, nxm_bolder_3_1, nxm_bolder_3_2, nxm_bolder_3_3, nxm_bolder_3_4, nxm_bolder_3_5, nxm_bolder_3_6, nxm_bolder_3_7, nxm_bolder_3_8, nxm_bolder_3_9]
def nxk_bolder_3 : ab_KS := [(136, 0, le_736), (81, 0, le_737), (55, 0, le_738), (138, 1, le_747), (138, 1, le_753), (138, 1, le_762), (138, 1, le_766), (138, 1, le_768), (138, 1, le_776), (138, 1, le_780), (138, 1, le_782), (193, 0, le_786), (193, 0, le_787), (193, 0, le_789), (193, 0, le_790), (193, 0, le_792), (193, 0, le_793), (193, 0, le_795), (193, 0, le_796), (193, 0, le_798), (193, 0, le_799), (193, 0, le_801), (193, 0, le_802), (193, 0, le_804), (193, 0, le_805), (193, 0, le_807), (193, 0, le_808), (193, 0, le_810), (193, 0, le_811), (193, 0, le_815), (193, 0, le_816), (193, 0, le_817), (193, 0, le_818), (193, 0, le_819), (193, 0, le_820), (193, 0, le_821), (193, 0, le_822), (193, 0, le_823), (193, 0, le_824), (193, 0, le_827), (193, 0, le_828), (193, 0, le_829), (193, 0, le_830), (193, 0, le_831), (193, 0, le_832), (193, 0, le_833), (193, 0, le_834), (193, 0, le_835), (193, 0, le_836), (138, 1, le_840), (193, 0, le_841), (193, 0, le_842), (193, 0, le_843), (193, 0, le_844), (193, 0, le_845), (193, 0, le_846), (193, 0, le_847), (193, 0, le_848), (193, 0, le_849), (193, 0, le_850), (193, 0, le_853), (193, 0, le_854), (137, 2, le_919), (137, 2, le_920), (137, 2, le_921), (137, 2, le_922), (137, 2, le_923), (137, 2, le_924), (137, 2, le_925), (137, 2, le_926), (137, 2, le_927), (137, 2, le_928), (193, 0, le_929), (193, 0, le_930), (193, 0, le_931), (193, 0, le_932), (193, 0, le_933), (193, 0, le_934), (193, 0, le_935), (193, 0, le_936), (193, 0, le_937), (193, 0, le_938), (193, 0, le_939), (193, 0, le_940), (193, 0, le_941), (193, 0, le_942), (193, 0, le_943), (193, 0, le_944), (193, 0, le_945), (193, 0, le_946), (193, 0, le_947), (193, 0, le_948), (193, 0, le_949), (193, 0, le_950), (193, 0, le_951), (193, 0, le_952), (193, 0, le_953), (193, 0, le_954), (193, 0, le_955), (193, 0, le_956), (193, 0, le_957), (193, 0, le_958), (193, 0, le_959), (193, 0, le_960), (193, 0, le_961), (193, 0, le_962), (193, 0, le_963), (193, 0, le_964), (193, 0, le_965), (193, 0, le_966), (193, 0, le_967), (193, 0, le_968), (193, 0, le_969), (193, 0, le_970), (193, 0, le_971), (193, 0, le_972), (193, 0, le_973), (193, 0, le_974), (193, 0, le_975), (193, 0, le_976), (193, 0, le_977), (193, 0, le_978), (193, 0, le_979), (193, 0, le_980), (193, 0, le_981), (193, 0, le_982), (193, 0, le_983), (193, 0, le_984), (193, 0, le_985), (193, 0, le_986), (193, 0, le_987), (193, 0, le_988), (193, 0, le_989), (193, 0, le_990), (193, 0, le_991), (193, 0, le_992)]
theorem nxc_bolder_3_0 : ab_cn vwCl nn_T nn_C nn_sh nn_MT (nn_KI1.map (fun x => x.1)) (nn_KJ1.map (fun x => x.1)) (nn_PF1.map (fun x => x.1)) nn_kd (nn_PS1.map (fun x => x.1)) (nn_PM1.map (fun x => x.1)) nxk_bolder_3 3 0 nn_dt200 6 nxd_bolder_3.2.1.length nxd_bolder_3.2.2.2.2 2 [] [37, 47, 48] [(47, [(0, 3, 0, 0), (0, 1, 0, 0), (0, 2, 0, 0)]), (48, [(0, 4, 0, 0), (0, 5, 0, 0)])] [nxe_bolder_3_0, nxe_bolder_3_1, nxe_bolder_3_2, nxe_bolder_3_3, nxe_bolder_3_4, nxe_bolder_3_5, nxe_bolder_3_6, nxe_bolder_3_7] nxn_bolder_3 21 nxm_bolder_3_0 = true := by decide +kernel
theorem nxc_bolder_3_1 : ab_cn vwCl nn_T nn_C nn_sh nn_MT (nn_KI1.map (fun x => x.1)) (nn_KJ1.map (fun x => x.1)) (nn_PF1.map (fun x => x.1)) nn_kd (nn_PS1.map (fun x => x.1)) (nn_PM1.map (fun x => x.1)) nxk_bolder_3 3 0 nn_dt200 6 nxd_bolder_3.2.1.length nxd_bolder_3.2.2.2.2 2 [] [37, 47, 48] [(47, [(0, 3, 0, 0), (0, 1, 0, 0), (0, 2, 0, 0)]), (48, [(0, 4, 0, 0), (0, 5, 0, 0)])] [nxe_bolder_3_0, nxe_bolder_3_1, nxe_bolder_3_2, nxe_bolder_3_3, nxe_bolder_3_4, nxe_bolder_3_5, nxe_bolder_3_6, nxe_bolder_3_7] nxn_bolder_3 21 nxm_bolder_3_1 = true := by decide +kernel
theorem nxc_bolder_3_2 : ab_cn vwCl nn_T nn_C nn_sh nn_MT (nn_KI1.map (fun x => x.1)) (nn_KJ1.map (fun x => x.1)) (nn_PF1.map (fun x => x.1)) nn_kd (nn_PS1.map (fun x => x.1)) (nn_PM1.map (fun x => x.1)) nxk_bolder_3 3 0 nn_dt200 6 nxd_bolder_3.2.1.length nxd_bolder_3.2.2.2.2 2 [] [37, 47, 48] [(47, [(0, 3, 0, 0), (0, 1, 0, 0), (0, 2, 0, 0)]), (48, [(0, 4, 0, 0), (0, 5, 0, 0)])] [nxe_bolder_3_0, nxe_bolder_3_1, nxe_bolder_3_2, nxe_bolder_3_3, nxe_bolder_3_4, nxe_bolder_3_5, nxe_bolder_3_6, nxe_bolder_3_7] nxn_bolder_3 21 nxm_bolder_3_2 = true := by decide +kernel
theorem nxc_bolder_3_3 : ab_cn vwCl nn_T nn_C nn_sh nn_MT (nn_KI1.map (fun x => x.1)) (nn_KJ1.map (fun x => x.1)) (nn_PF1.map (fun x => x.1)) nn_kd (nn_PS1.map (fun x => x.1)) (nn_PM1.map (fun x => x.1)) nxk_bolder_3 3 0 nn_dt200 6 nxd_bolder_3.2.1.length nxd_bolder_3.2.2.2.2 2 [] [37, 47, 48] [(47, [(0, 3, 0, 0), (0, 1, 0, 0), (0, 2, 0, 0)]), (48, [(0, 4, 0, 0), (0, 5, 0, 0)])] [nxe_bolder_3_0, nxe_bolder_3_1, nxe_bolder_3_2, nxe_bolder_3_3, nxe_bolder_3_4, nxe_bolder_3_5, nxe_bolder_3_6, nxe_bolder_3_7] nxn_bolder_3 21 nxm_bolder_3_3 = true := by decide +kernel
theorem nxc_bolder_3_4 : ab_cn vwCl nn_T nn_C nn_sh nn_MT (nn_KI1.map (fun x => x.1)) (nn_KJ1.map (fun x => x.1)) (nn_PF1.map (fun x => x.1)) nn_kd (nn_PS1.map (fun x => x.1)) (nn_PM1.map (fun x => x.1)) nxk_bolder_3 3 0 nn_dt200 6 nxd_bolder_3.2.1.length nxd_bolder_3.2.2.2.2 2 [] [37, 47, 48] [(47, [(0, 3, 0, 0), (0, 1, 0, 0), (0, 2, 0, 0)]), (48, [(0, 4, 0, 0), (0, 5, 0, 0)])] [nxe_bolder_3_0, nxe_bolder_3_1, nxe_bolder_3_2, nxe_bolder_3_3, nxe_bolder_3_4, nxe_bolder_3_5, nxe_bolder_3_6, nxe_bolder_3_7] nxn_bolder_3 21 nxm_bolder_3_4 = true := by decide +kernel
theorem nxc_bolder_3_5 : ab_cn vwCl nn_T nn_C nn_sh nn_MT (nn_KI1.map (fun x => x.1)) (nn_KJ1.map (fun x => x.1)) (nn_PF1.map (fun x => x.1)) nn_kd (nn_PS1.map (fun x => x.1)) (nn_PM1.map (fun x => x.1)) nxk_bolder_3 3 0 nn_dt200 6 nxd_bolder_3.2.1.length nxd_bolder_3.2.2.2.2 2 [] [37, 47, 48] [(47, [(0, 3, 0, 0), (0, 1, 0, 0), (0, 2, 0, 0)]), (48, [(0, 4, 0, 0), (0, 5, 0, 0)])] [nxe_bolder_3_0, nxe_bolder_3_1, nxe_bolder_3_2, nxe_bolder_3_3, nxe_bolder_3_4, nxe_bolder_3_5, nxe_bolder_3_6, nxe_bolder_3_7] nxn_bolder_3 21 nxm_bolder_3_5 = true := by decide +kernel
theorem nxc_bolder_3_6 : ab_cn vwCl nn_T nn_C nn_sh nn_MT (nn_KI1.map (fun x => x.1)) (nn_KJ1.map (fun x => x.1)) (nn_PF1.map (fun x => x.1)) nn_kd (nn_PS1.map (fun x => x.1)) (nn_PM1.map (fun x => x.1)) nxk_bolder_3 3 0 nn_dt200 6 nxd_bolder_3.2.1.length nxd_bolder_3.2.2.2.2 2 [] [37, 47, 48] [(47, [(0, 3, 0, 0), (0, 1, 0, 0), (0, 2, 0, 0)]), (48, [(0, 4, 0, 0), (0, 5, 0, 0)])] [nxe_bolder_3_0, nxe_bolder_3_1, nxe_bolder_3_2, nxe_bolder_3_3, nxe_bolder_3_4, nxe_bolder_3_5, nxe_bolder_3_6, nxe_bolder_3_7] nxn_bolder_3 21 nxm_bolder_3_6 = true := by decide +kernel
theorem nxc_bolder_3_7 : ab_cn vwCl nn_T nn_C nn_sh nn_MT (nn_KI1.map (fun x => x.1)) (nn_KJ1.map (fun x => x.1)) (nn_PF1.map (fun x => x.1)) nn_kd (nn_PS1.map (fun x => x.1)) (nn_PM1.map (fun x => x.1)) nxk_bolder_3 3 0 nn_dt200 6 nxd_bolder_3.2.1.length nxd_bolder_3.2.2.2.2 2 [] [37, 47, 48] [(47, [(0, 3, 0, 0), (0, 1, 0, 0), (0, 2, 0, 0)]), (48, [(0, 4, 0, 0), (0, 5, 0, 0)])] [nxe_bolder_3_0, nxe_bolder_3_1, nxe_bolder_3_2, nxe_bolder_3_3, nxe_bolder_3_4, nxe_bolder_3_5, nxe_bolder_3_6, nxe_bolder_3_7] nxn_bolder_3 21 nxm_bolder_3_7 = true := by decide +kernel
theorem nxc_bolder_3_8 : ab_cn vwCl nn_T nn_C nn_sh nn_MT (nn_KI1.map (fun x => x.1)) (nn_KJ1.map (fun x => x.1)) (nn_PF1.map (fun x => x.1)) nn_kd (nn_PS1.map (fun x => x.1)) (nn_PM1.map (fun x => x.1)) nxk_bolder_3 3 0 nn_dt200 6 nxd_bolder_3.2.1.length nxd_bolder_3.2.2.2.2 2 [] [37, 47, 48] [(47, [(0, 3, 0, 0), (0, 1, 0, 0), (0, 2, 0, 0)]), (48, [(0, 4, 0, 0), (0, 5, 0, 0)])] [nxe_bolder_3_0, nxe_bolder_3_1, nxe_bolder_3_2, nxe_bolder_3_3, nxe_bolder_3_4, nxe_bolder_3_5, nxe_bolder_3_6, nxe_bolder_3_7] nxn_bolder_3 21 nxm_bolder_3_8 = true := by decide +kernel
theorem nxc_bolder_3_9 : ab_cn vwCl nn_T nn_C nn_sh nn_MT (nn_KI1.map (fun x => x.1)) (nn_KJ1.map (fun x => x.1)) (nn_PF1.map (fun x => x.1)) nn_kd (nn_PS1.map (fun x => x.1)) (nn_PM1.map (fun x => x.1)) nxk_bolder_3 3 0 nn_dt200 6 nxd_bolder_3.2.1.length nxd_bolder_3.2.2.2.2 2 [] [37, 47, 48] [(47, [(0, 3, 0, 0), (0, 1, 0, 0), (0, 2, 0, 0)]), (48, [(0, 4, 0, 0), (0, 5, 0, 0)])] [nxe_bolder_3_0, nxe_bolder_3_1, nxe_bolder_3_2, nxe_bolder_3_3, nxe_bolder_3_4, nxe_bolder_3_5, nxe_bolder_3_6, nxe_bolder_3_7] nxn_bolder_3 21 nxm_bolder_3_9 = true := by decide +kernel
theorem nxc_bolder_3 : nxn_bolder_3.all (ab_cn vwCl nn_T nn_C nn_sh nn_MT (nn_KI1.map (fun x => x.1)) (nn_KJ1.map (fun x => x.1)) (nn_PF1.map (fun x => x.1)) nn_kd (nn_PS1.map (fun x => x.1)) (nn_PM1.map (fun x => x.1)) nxk_bolder_3 3 0 nn_dt200 6 nxd_bolder_3.2.1.length nxd_bolder_3.2.2.2.2 2 [] [37, 47, 48] [(47, [(0, 3, 0, 0), (0, 1, 0, 0), (0, 2, 0, 0)]), (48, [(0, 4, 0, 0), (0, 5, 0, 0)])] [nxe_bolder_3_0, nxe_bolder_3_1, nxe_bolder_3_2, nxe_bolder_3_3, nxe_bolder_3_4, nxe_bolder_3_5, nxe_bolder_3_6, nxe_bolder_3_7] nxn_bolder_3 21) = true := List.all_eq_true.mpr (List.forall_mem_cons.mpr ⟨nxc_bolder_3_0, List.forall_mem_cons.mpr ⟨nxc_bolder_3_1, List.forall_mem_cons.mpr ⟨nxc_bolder_3_2, List.forall_mem_cons.mpr ⟨nxc_bolder_3_3, List.forall_mem_cons.mpr ⟨nxc_bolder_3_4, List.forall_mem_cons.mpr ⟨nxc_bolder_3_5, List.forall_mem_cons.mpr ⟨nxc_bolder_3_6, List.forall_mem_cons.mpr ⟨nxc_bolder_3_7, List.forall_mem_cons.mpr ⟨nxc_bolder_3_8, List.forall_mem_cons.mpr ⟨nxc_bolder_3_9, fun _ h => absurd h List.not_mem_nil⟩⟩⟩⟩⟩⟩⟩⟩⟩⟩)
set_option maxHeartbeats 4000000 in
theorem nxt_bolder_3 (l : Launch) (htr : l.stackTraces = false) (cy : Nat → ClassId) (ad wr cr : Nat → Nat) (D : va_G) (hinj : nn_inj ad) : nx_H l cy ad wr cr D (200, 3, nxd_bolder_3, nxo_bolder_3) := by
  refine nx_holdW (mr := (⟨"NameNotes", "bolder", "(IIIII)J"⟩, prog_1_method_37_code, 6, (Option.some Jvm.ClassFile.FieldType.long), 5, true, 2)) (dt := nn_dt200) (KS := nxk_bolder_3) htr hinj rfl rfl (by decide +kernel) nn_KI1_ok nn_KJ1_ok nn_PF1_ok nn_PS1_ok nn_PM1_ok (List.forall_mem_cons.mpr ⟨lf_736 l cy ad wr cr D hinj, List.forall_mem_cons.mpr ⟨lf_737 l cy ad wr cr D hinj, List.forall_mem_cons.mpr ⟨lf_738 l cy ad wr cr D hinj, List.forall_mem_cons.mpr ⟨lf_747 l cy ad wr cr D hinj, List.forall_mem_cons.mpr ⟨lf_753 l cy ad wr cr D hinj, List.forall_mem_cons.mpr ⟨lf_762 l cy ad wr cr D hinj, List.forall_mem_cons.mpr ⟨lf_766 l cy ad wr cr D hinj, List.forall_mem_cons.mpr ⟨lf_768 l cy ad wr cr D hinj, List.forall_mem_cons.mpr ⟨lf_776 l cy ad wr cr D hinj, List.forall_mem_cons.mpr ⟨lf_780 l cy ad wr cr D hinj, List.forall_mem_cons.mpr ⟨lf_782 l cy ad wr cr D hinj, List.forall_mem_cons.mpr ⟨lf_786 l cy ad wr cr D hinj, List.forall_mem_cons.mpr ⟨lf_787 l cy ad wr cr D hinj, List.forall_mem_cons.mpr ⟨lf_789 l cy ad wr cr D hinj, List.forall_mem_cons.mpr ⟨lf_790 l cy ad wr cr D hinj, List.forall_mem_cons.mpr ⟨lf_792 l cy ad wr cr D hinj, List.forall_mem_cons.mpr ⟨lf_793 l cy ad wr cr D hinj, List.forall_mem_cons.mpr ⟨lf_795 l cy ad wr cr D hinj, List.forall_mem_cons.mpr ⟨lf_796 l cy ad wr cr D hinj, List.forall_mem_cons.mpr ⟨lf_798 l cy ad wr cr D hinj, List.forall_mem_cons.mpr ⟨lf_799 l cy ad wr cr D hinj, List.forall_mem_cons.mpr ⟨lf_801 l cy ad wr cr D hinj, List.forall_mem_cons.mpr ⟨lf_802 l cy ad wr cr D hinj, List.forall_mem_cons.mpr ⟨lf_804 l cy ad wr cr D hinj, List.forall_mem_cons.mpr ⟨lf_805 l cy ad wr cr D hinj, List.forall_mem_cons.mpr ⟨lf_807 l cy ad wr cr D hinj, List.forall_mem_cons.mpr ⟨lf_808 l cy ad wr cr D hinj, List.forall_mem_cons.mpr ⟨lf_810 l cy ad wr cr D hinj, List.forall_mem_cons.mpr ⟨lf_811 l cy ad wr cr D hinj, List.forall_mem_cons.mpr ⟨lf_815 l cy ad wr cr D hinj, List.forall_mem_cons.mpr ⟨lf_816 l cy ad wr cr D hinj, List.forall_mem_cons.mpr ⟨lf_817 l cy ad wr cr D hinj, List.forall_mem_cons.mpr ⟨lf_818 l cy ad wr cr D hinj, List.forall_mem_cons.mpr ⟨lf_819 l cy ad wr cr D hinj, List.forall_mem_cons.mpr ⟨lf_820 l cy ad wr cr D hinj, List.forall_mem_cons.mpr ⟨lf_821 l cy ad wr cr D hinj, List.forall_mem_cons.mpr ⟨lf_822 l cy ad wr cr D hinj, List.forall_mem_cons.mpr ⟨lf_823 l cy ad wr cr D hinj, List.forall_mem_cons.mpr ⟨lf_824 l cy ad wr cr D hinj, List.forall_mem_cons.mpr ⟨lf_827 l cy ad wr cr D hinj, List.forall_mem_cons.mpr ⟨lf_828 l cy ad wr cr D hinj, List.forall_mem_cons.mpr ⟨lf_829 l cy ad wr cr D hinj, List.forall_mem_cons.mpr ⟨lf_830 l cy ad wr cr D hinj, List.forall_mem_cons.mpr ⟨lf_831 l cy ad wr cr D hinj, List.forall_mem_cons.mpr ⟨lf_832 l cy ad wr cr D hinj, List.forall_mem_cons.mpr ⟨lf_833 l cy ad wr cr D hinj, List.forall_mem_cons.mpr ⟨lf_834 l cy ad wr cr D hinj, List.forall_mem_cons.mpr ⟨lf_835 l cy ad wr cr D hinj, List.forall_mem_cons.mpr ⟨lf_836 l cy ad wr cr D hinj, List.forall_mem_cons.mpr ⟨lf_840 l cy ad wr cr D hinj, List.forall_mem_cons.mpr ⟨lf_841 l cy ad wr cr D hinj, List.forall_mem_cons.mpr ⟨lf_842 l cy ad wr cr D hinj, List.forall_mem_cons.mpr ⟨lf_843 l cy ad wr cr D hinj, List.forall_mem_cons.mpr ⟨lf_844 l cy ad wr cr D hinj, List.forall_mem_cons.mpr ⟨lf_845 l cy ad wr cr D hinj, List.forall_mem_cons.mpr ⟨lf_846 l cy ad wr cr D hinj, List.forall_mem_cons.mpr ⟨lf_847 l cy ad wr cr D hinj, List.forall_mem_cons.mpr ⟨lf_848 l cy ad wr cr D hinj, List.forall_mem_cons.mpr ⟨lf_849 l cy ad wr cr D hinj, List.forall_mem_cons.mpr ⟨lf_850 l cy ad wr cr D hinj, List.forall_mem_cons.mpr ⟨lf_853 l cy ad wr cr D hinj, List.forall_mem_cons.mpr ⟨lf_854 l cy ad wr cr D hinj, List.forall_mem_cons.mpr ⟨lf_919 l cy ad wr cr D hinj, List.forall_mem_cons.mpr ⟨lf_920 l cy ad wr cr D hinj, List.forall_mem_cons.mpr ⟨lf_921 l cy ad wr cr D hinj, List.forall_mem_cons.mpr ⟨lf_922 l cy ad wr cr D hinj, List.forall_mem_cons.mpr ⟨lf_923 l cy ad wr cr D hinj, List.forall_mem_cons.mpr ⟨lf_924 l cy ad wr cr D hinj, List.forall_mem_cons.mpr ⟨lf_925 l cy ad wr cr D hinj, List.forall_mem_cons.mpr ⟨lf_926 l cy ad wr cr D hinj, List.forall_mem_cons.mpr ⟨lf_927 l cy ad wr cr D hinj, List.forall_mem_cons.mpr ⟨lf_928 l cy ad wr cr D hinj, List.forall_mem_cons.mpr ⟨lf_929 l cy ad wr cr D hinj, List.forall_mem_cons.mpr ⟨lf_930 l cy ad wr cr D hinj, List.forall_mem_cons.mpr ⟨lf_931 l cy ad wr cr D hinj, List.forall_mem_cons.mpr ⟨lf_932 l cy ad wr cr D hinj, List.forall_mem_cons.mpr ⟨lf_933 l cy ad wr cr D hinj, List.forall_mem_cons.mpr ⟨lf_934 l cy ad wr cr D hinj, List.forall_mem_cons.mpr ⟨lf_935 l cy ad wr cr D hinj, List.forall_mem_cons.mpr ⟨lf_936 l cy ad wr cr D hinj, List.forall_mem_cons.mpr ⟨lf_937 l cy ad wr cr D hinj, List.forall_mem_cons.mpr ⟨lf_938 l cy ad wr cr D hinj, List.forall_mem_cons.mpr ⟨lf_939 l cy ad wr cr D hinj, List.forall_mem_cons.mpr ⟨lf_940 l cy ad wr cr D hinj, List.forall_mem_cons.mpr ⟨lf_941 l cy ad wr cr D hinj, List.forall_mem_cons.mpr ⟨lf_942 l cy ad wr cr D hinj, List.forall_mem_cons.mpr ⟨lf_943 l cy ad wr cr D hinj, List.forall_mem_cons.mpr ⟨lf_944 l cy ad wr cr D hinj, List.forall_mem_cons.mpr ⟨lf_945 l cy ad wr cr D hinj, List.forall_mem_cons.mpr ⟨lf_946 l cy ad wr cr D hinj, List.forall_mem_cons.mpr ⟨lf_947 l cy ad wr cr D hinj, List.forall_mem_cons.mpr ⟨lf_948 l cy ad wr cr D hinj, List.forall_mem_cons.mpr ⟨lf_949 l cy ad wr cr D hinj, List.forall_mem_cons.mpr ⟨lf_950 l cy ad wr cr D hinj, List.forall_mem_cons.mpr ⟨lf_951 l cy ad wr cr D hinj, List.forall_mem_cons.mpr ⟨lf_952 l cy ad wr cr D hinj, List.forall_mem_cons.mpr ⟨lf_953 l cy ad wr cr D hinj, List.forall_mem_cons.mpr ⟨lf_954 l cy ad wr cr D hinj, List.forall_mem_cons.mpr ⟨lf_955 l cy ad wr cr D hinj, List.forall_mem_cons.mpr ⟨lf_956 l cy ad wr cr D hinj, List.forall_mem_cons.mpr ⟨lf_957 l cy ad wr cr D hinj, List.forall_mem_cons.mpr ⟨lf_958 l cy ad wr cr D hinj, List.forall_mem_cons.mpr ⟨lf_959 l cy ad wr cr D hinj, List.forall_mem_cons.mpr ⟨lf_960 l cy ad wr cr D hinj, List.forall_mem_cons.mpr ⟨lf_961 l cy ad wr cr D hinj, List.forall_mem_cons.mpr ⟨lf_962 l cy ad wr cr D hinj, List.forall_mem_cons.mpr ⟨lf_963 l cy ad wr cr D hinj, List.forall_mem_cons.mpr ⟨lf_964 l cy ad wr cr D hinj, List.forall_mem_cons.mpr ⟨lf_965 l cy ad wr cr D hinj, List.forall_mem_cons.mpr ⟨lf_966 l cy ad wr cr D hinj, List.forall_mem_cons.mpr ⟨lf_967 l cy ad wr cr D hinj, List.forall_mem_cons.mpr ⟨lf_968 l cy ad wr cr D hinj, List.forall_mem_cons.mpr ⟨lf_969 l cy ad wr cr D hinj, List.forall_mem_cons.mpr ⟨lf_970 l cy ad wr cr D hinj, List.forall_mem_cons.mpr ⟨lf_971 l cy ad wr cr D hinj, List.forall_mem_cons.mpr ⟨lf_972 l cy ad wr cr D hinj, List.forall_mem_cons.mpr ⟨lf_973 l cy ad wr cr D hinj, List.forall_mem_cons.mpr ⟨lf_974 l cy ad wr cr D hinj, List.forall_mem_cons.mpr ⟨lf_975 l cy ad wr cr D hinj, List.forall_mem_cons.mpr ⟨lf_976 l cy ad wr cr D hinj, List.forall_mem_cons.mpr ⟨lf_977 l cy ad wr cr D hinj, List.forall_mem_cons.mpr ⟨lf_978 l cy ad wr cr D hinj, List.forall_mem_cons.mpr ⟨lf_979 l cy ad wr cr D hinj, List.forall_mem_cons.mpr ⟨lf_980 l cy ad wr cr D hinj, List.forall_mem_cons.mpr ⟨lf_981 l cy ad wr cr D hinj, List.forall_mem_cons.mpr ⟨lf_982 l cy ad wr cr D hinj, List.forall_mem_cons.mpr ⟨lf_983 l cy ad wr cr D hinj, List.forall_mem_cons.mpr ⟨lf_984 l cy ad wr cr D hinj, List.forall_mem_cons.mpr ⟨lf_985 l cy ad wr cr D hinj, List.forall_mem_cons.mpr ⟨lf_986 l cy ad wr cr D hinj, List.forall_mem_cons.mpr ⟨lf_987 l cy ad wr cr D hinj, List.forall_mem_cons.mpr ⟨lf_988 l cy ad wr cr D hinj, List.forall_mem_cons.mpr ⟨lf_989 l cy ad wr cr D hinj, List.forall_mem_cons.mpr ⟨lf_990 l cy ad wr cr D hinj, List.forall_mem_cons.mpr ⟨lf_991 l cy ad wr cr D hinj, List.forall_mem_cons.mpr ⟨lf_992 l cy ad wr cr D hinj, fun _ h => absurd h List.not_mem_nil⟩⟩⟩⟩⟩⟩⟩⟩⟩⟩⟩⟩⟩⟩⟩⟩⟩⟩⟩⟩⟩⟩⟩⟩⟩⟩⟩⟩⟩⟩⟩⟩⟩⟩⟩⟩⟩⟩⟩⟩⟩⟩⟩⟩⟩⟩⟩⟩⟩⟩⟩⟩⟩⟩⟩⟩⟩⟩⟩⟩⟩⟩⟩⟩⟩⟩⟩⟩⟩⟩⟩⟩⟩⟩⟩⟩⟩⟩⟩⟩⟩⟩⟩⟩⟩⟩⟩⟩⟩⟩⟩⟩⟩⟩⟩⟩⟩⟩⟩⟩⟩⟩⟩⟩⟩⟩⟩⟩⟩⟩⟩⟩⟩⟩⟩⟩⟩⟩⟩⟩⟩⟩⟩⟩⟩⟩⟩⟩⟩⟩⟩⟩⟩⟩⟩⟩) ?_
  intro p e s m below meth c R Q ρ σ hE hK hsy hP hRT hTH
  refine ab_entry (lev := 3) (sp := []) (HD := [37, 47, 48]) (HN := [(47, [(0, 3, 0, 0), (0, 1, 0, 0), (0, 2, 0, 0)]), (48, [(0, 4, 0, 0), (0, 5, 0, 0)])]) (EX := [nxe_bolder_3_0, nxe_bolder_3_1, nxe_bolder_3_2, nxe_bolder_3_3, nxe_bolder_3_4, nxe_bolder_3_5, nxe_bolder_3_6, nxe_bolder_3_7]) (NS := nxn_bolder_3) (fuel := 21) (mu := ((9000000000000000000000, [], []), (0, [], []), (0, [], []))) hE (by decide +kernel) hK hsy hP List.mem_cons_self hRT ?_ (fun nd hnd => List.all_eq_true.mp nxc_bolder_3 nd hnd)
  intro nd hnd ρ2 σ2 H locs ls st hG
  rcases List.mem_cons.mp hnd with rfl | hnd
  · exact hTH 37 _ ρ2 σ2 H locs ls st 213 "no such ones" 5 (by decide +kernel) rfl (by decide +kernel) (show decode prog_1_method_37_code 37 = .ok (.new 211, 3) by decide +kernel) (show decode prog_1_method_37_code 40 = .ok (.dup, 1) by decide +kernel) (Or.inl ⟨(show decode prog_1_method_37_code 41 = .ok (.ldc 213, 2) by decide +kernel), (show decode prog_1_method_37_code 43 = .ok (.invokespecial 215, 3) by decide +kernel), (show decode prog_1_method_37_code 46 = .ok (.athrow, 1) by decide +kernel)⟩) hG
  rcases List.mem_cons.mp hnd with rfl | hnd
  · exact hTH 37 _ ρ2 σ2 H locs ls st 213 "no such ones" 5 (by decide +kernel) rfl (by decide +kernel) (show decode prog_1_method_37_code 37 = .ok (.new 211, 3) by decide +kernel) (show decode prog_1_method_37_code 40 = .ok (.dup, 1) by decide +kernel) (Or.inl ⟨(show decode prog_1_method_37_code 41 = .ok (.ldc 213, 2) by decide +kernel), (show decode prog_1_method_37_code 43 = .ok (.invokespecial 215, 3) by decide +kernel), (show decode prog_1_method_37_code 46 = .ok (.athrow, 1) by decide +kernel)⟩) hG
  rcases List.mem_cons.mp hnd with rfl | hnd
  · exact hTH 37 _ ρ2 σ2 H locs ls st 213 "no such ones" 5 (by decide +kernel) rfl (by decide +kernel) (show decode prog_1_method_37_code 37 = .ok (.new 211, 3) by decide +kernel) (show decode prog_1_method_37_code 40 = .ok (.dup, 1) by decide +kernel) (Or.inl ⟨(show decode prog_1_method_37_code 41 = .ok (.ldc 213, 2) by decide +kernel), (show decode prog_1_method_37_code 43 = .ok (.invokespecial 215, 3) by decide +kernel), (show decode prog_1_method_37_code 46 = .ok (.athrow, 1) by decide +kernel)⟩) hG
  rcases List.mem_cons.mp hnd with rfl | hnd
  · exact hTH 37 _ ρ2 σ2 H locs ls st 213 "no such ones" 5 (by decide +kernel) rfl (by decide +kernel) (show decode prog_1_method_37_code 37 = .ok (.new 211, 3) by decide +kernel) (show decode prog_1_method_37_code 40 = .ok (.dup, 1) by decide +kernel) (Or.inl ⟨(show decode prog_1_method_37_code 41 = .ok (.ldc 213, 2) by decide +kernel), (show decode prog_1_method_37_code 43 = .ok (.invokespecial 215, 3) by decide +kernel), (show decode prog_1_method_37_code 46 = .ok (.athrow, 1) by decide +kernel)⟩) hG
  rcases List.mem_cons.mp hnd with rfl | hnd
  · exact hTH 37 _ ρ2 σ2 H locs ls st 213 "no such ones" 5 (by decide +kernel) rfl (by decide +kernel) (show decode prog_1_method_37_code 37 = .ok (.new 211, 3) by decide +kernel) (show decode prog_1_method_37_code 40 = .ok (.dup, 1) by decide +kernel) (Or.inl ⟨(show decode prog_1_method_37_code 41 = .ok (.ldc 213, 2) by decide +kernel), (show decode prog_1_method_37_code 43 = .ok (.invokespecial 215, 3) by decide +kernel), (show decode prog_1_method_37_code 46 = .ok (.athrow, 1) by decide +kernel)⟩) hG
  rcases List.mem_cons.mp hnd with rfl | hnd
  · exact hTH 37 _ ρ2 σ2 H locs ls st 213 "no such ones" 5 (by decide +kernel) rfl (by decide +kernel) (show decode prog_1_method_37_code 37 = .ok (.new 211, 3) by decide +kernel) (show decode prog_1_method_37_code 40 = .ok (.dup, 1) by decide +kernel) (Or.inl ⟨(show decode prog_1_method_37_code 41 = .ok (.ldc 213, 2) by decide +kernel), (show decode prog_1_method_37_code 43 = .ok (.invokespecial 215, 3) by decide +kernel), (show decode prog_1_method_37_code 46 = .ok (.athrow, 1) by decide +kernel)⟩) hG
  rcases List.mem_cons.mp hnd with rfl | hnd
  · exact hTH 37 _ ρ2 σ2 H locs ls st 213 "no such ones" 5 (by decide +kernel) rfl (by decide +kernel) (show decode prog_1_method_37_code 37 = .ok (.new 211, 3) by decide +kernel) (show decode prog_1_method_37_code 40 = .ok (.dup, 1) by decide +kernel) (Or.inl ⟨(show decode prog_1_method_37_code 41 = .ok (.ldc 213, 2) by decide +kernel), (show decode prog_1_method_37_code 43 = .ok (.invokespecial 215, 3) by decide +kernel), (show decode prog_1_method_37_code 46 = .ok (.athrow, 1) by decide +kernel)⟩) hG
  rcases List.mem_cons.mp hnd with rfl | hnd
  · exact hTH 37 _ ρ2 σ2 H locs ls st 213 "no such ones" 5 (by decide +kernel) rfl (by decide +kernel) (show decode prog_1_method_37_code 37 = .ok (.new 211, 3) by decide +kernel) (show decode prog_1_method_37_code 40 = .ok (.dup, 1) by decide +kernel) (Or.inl ⟨(show decode prog_1_method_37_code 41 = .ok (.ldc 213, 2) by decide +kernel), (show decode prog_1_method_37_code 43 = .ok (.invokespecial 215, 3) by decide +kernel), (show decode prog_1_method_37_code 46 = .ok (.athrow, 1) by decide +kernel)⟩) hG
  exact absurd hnd List.not_mem_nil
/-- NameNotes.bolder_4 -/
def nxd_bolder_4 : ab_CN := ([(2, 0, 0), (0, 1, 0), (0, 2, 0), (0, 3, 0), (0, 4, 0), (0, 5, 0)], [(0, 0), ((-2147483648), 2147483647), ((-2147483648), 2147483647), (3, 3), ((-2147483648), 2147483647), ((-2147483648), 2147483647)], [], [], [([(1, 0, 1)], [(0, 0), (2, 2), (2, 2), (3, 3), (9, 9), (1, 1)], [], [], [(90, 1000000), (91, 1000000)]),
    ([(1, 0, 1)], [(0, 0), (2, 2), (2, 2), (3, 3), (9, 9), (0, 0)], [], [], [(90, 1000000), (91, 1000000)]),
    ([(1, 0, 9)], [(0, 0), (2, 2), (2, 2), (3, 3), (8, 8), (1, 1)], [], [], [(90, 1000000), (91, 1000000)]),
    ([(1, 0, 8)], [(0, 0), (2, 2), (2, 2), (3, 3), (8, 8), (0, 0)], [], [], [(90, 1000000), (91, 1000000)]),
    ([(1, 0, 9)], [(0, 0), (2, 2), (2, 2), (3, 3), (7, 7), (1, 1)], [], [], [(90, 1000000), (91, 1000000)]),
    ([(1, 0, 7)], [(0, 0), (2, 2), (2, 2), (3, 3), (7, 7), (0, 0)], [], [], [(90, 1000000), (91, 1000000)]),
    ([(1, 0, 3)], [(0, 0), (2, 2), (2, 2), (3, 3), (6, 6), (1, 1)], [], [], [(90, 1000000), (91, 1000000)]),
    ([(1, 0, 2)], [(0, 0), (2, 2), (2, 2), (3, 3), (6, 6), (0, 0)], [], [], [(90, 1000000), (91, 1000000)]),
    ([(1, 0, 9)], [(0, 0), (2, 2), (2, 2), (3, 3), (5, 5), (1, 1)], [], [], [(90, 1000000), (91, 1000000)]),
    ([(1, 0, 5)], [(0, 0), (2, 2), (2, 2), (3, 3), (5, 5), (0, 0)], [], [], [(90, 1000000), (91, 1000000)]),
    ([(1, 0, 9)], [(0, 0), (2, 2), (2, 2), (3, 3), (4, 4), (1, 1)], [], [], [(90, 1000000), (91, 1000000)]),
    ([(1, 0, 4)], [(0, 0), (2, 2), (2, 2), (3, 3), (4, 4), (0, 0)], [], [], [(90, 1000000), (91, 1000000)]),
    ([(1, 0, 3)], [(0, 0), (2, 2), (2, 2), (3, 3), (3, 3), (1, 1)], [], [], [(90, 1000000), (91, 1000000)]),
    ([(1, 0, 1)], [(0, 0), (2, 2), (2, 2), (3, 3), (3, 3), (0, 0)], [], [], [(90, 1000000), (91, 1000000)]),
    ([(1, 0, 3)], [(0, 0), (2, 2), (2, 2), (3, 3), (2, 2), (1, 1)], [], [], [(90, 1000000), (91, 1000000)]),
    ([(1, 0, 1)], [(0, 0), (2, 2), (2, 2), (3, 3), (2, 2), (0, 0)], [], [], [(90, 1000000), (91, 1000000)]),
    ([(1, 0, 3)], [(0, 0), (2, 2), (2, 2), (3, 3), (1, 1), (1, 1)], [], [], [(90, 1000000), (91, 1000000)]),
    ([(1, 0, 1)], [(0, 0), (2, 2), (2, 2), (3, 3), (1, 1), (0, 0)], [], [], [(90, 1000000), (91, 1000000)]),
    ([(1, 0, 3)], [(0, 0), (2, 2), (2, 2), (3, 3), (0, 0), (1, 1)], [], [], [(90, 1000000), (91, 1000000)]),
    ([(1, 0, 1)], [(0, 0), (2, 2), (2, 2), (3, 3), (0, 0), (0, 0)], [], [], [(90, 1000000), (91, 1000000)]),
    ([(1, 0, 1)], [(0, 0), (2, 2), (1, 1), (3, 3), (9, 9), (1, 1)], [], [], [(90, 1000000), (91, 1000000)]),
    ([(1, 0, 1)], [(0, 0), (2, 2), (1, 1), (3, 3), (9, 9), (0, 0)], [], [], [(90, 1000000), (91, 1000000)]),
    ([(1, 0, 27)], [(0, 0), (2, 2), (1, 1), (3, 3), (8, 8), (1, 1)], [], [], [(90, 1000000), (91, 1000000)]),
    ([(1, 0, 25)], [(0, 0), (2, 2), (1, 1), (3, 3), (8, 8), (0, 0)], [], [], [(90, 1000000), (91, 1000000)]),
    ([(1, 0, 27)], [(0, 0), (2, 2), (1, 1), (3, 3), (7, 7), (1, 1)], [], [], [(90, 1000000), (91, 1000000)]),
    ([(1, 0, 23)], [(0, 0), (2, 2), (1, 1), (3, 3), (7, 7), (0, 0)], [], [], [(90, 1000000), (91, 1000000)]),
    ([(1, 0, 9)], [(0, 0), (2, 2), (1, 1), (3, 3), (6, 6), (1, 1)], [], [], [(90, 1000000), (91, 1000000)]),
    ([(1, 0, 7)], [(0, 0), (2, 2), (1, 1), (3, 3), (6, 6), (0, 0)], [], [], [(90, 1000000), (91, 1000000)]),
    ([(1, 0, 27)], [(0, 0), (2, 2), (1, 1), (3, 3), (5, 5), (1, 1)], [], [], [(90, 1000000), (91, 1000000)]),
    ([(1, 0, 19)], [(0, 0), (2, 2), (1, 1), (3, 3), (5, 5), (0, 0)], [], [], [(90, 1000000), (91, 1000000)]),
    ([(1, 0, 27)], [(0, 0), (2, 2), (1, 1), (3, 3), (4, 4), (1, 1)], [], [], [(90, 1000000), (91, 1000000)]),
    ([(1, 0, 17)], [(0, 0), (2, 2), (1, 1), (3, 3), (4, 4), (0, 0)], [], [], [(90, 1000000), (91, 1000000)]),
    ([(1, 0, 9)], [(0, 0), (2, 2), (1, 1), (3, 3), (3, 3), (1, 1)], [], [], [(90, 1000000), (91, 1000000)]),
    ([(1, 0, 5)], [(0, 0), (2, 2), (1, 1), (3, 3), (3, 3), (0, 0)], [], [], [(90, 1000000), (91, 1000000)]),
    ([(1, 0, 9)], [(0, 0), (2, 2), (1, 1), (3, 3), (2, 2), (1, 1)], [], [], [(90, 1000000), (91, 1000000)]),
    ([(1, 0, 5)], [(0, 0), (2, 2), (1, 1), (3, 3), (2, 2), (0, 0)], [], [], [(90, 1000000), (91, 1000000)]),
    ([(1, 0, 9)], [(0, 0), (2, 2), (1, 1), (3, 3), (1, 1), (1, 1)], [], [], [(90, 1000000), (91, 1000000)]),
    ([(1, 0, 5)], [(0, 0), (2, 2), (1, 1), (3, 3), (1, 1), (0, 0)], [], [], [(90, 1000000), (91, 1000000)]),
    ([(1, 0, 9)], [(0, 0), (2, 2), (1, 1), (3, 3), (0, 0), (1, 1)], [], [], [(90, 1000000), (91, 1000000)]),
    ([(1, 0, 5)], [(0, 0), (2, 2), (1, 1), (3, 3), (0, 0), (0, 0)], [], [], [(90, 1000000), (91, 1000000)]),
    ([(1, 0, 1)], [(0, 0), (2, 2), (0, 0), (3, 3), (9, 9), (1, 1)], [], [], [(90, 1000000), (91, 1000000)]),
    ([(1, 0, 1)], [(0, 0), (2, 2), (0, 0), (3, 3), (9, 9), (0, 0)], [], [], [(90, 1000000), (91, 1000000)]),
    ([(1, 0, 81)], [(0, 0), (2, 2), (0, 0), (3, 3), (8, 8), (1, 1)], [], [], [(90, 1000000), (91, 1000000)]),
    ([(1, 0, 80)], [(0, 0), (2, 2), (0, 0), (3, 3), (8, 8), (0, 0)], [], [], [(90, 1000000), (91, 1000000)]),
    ([(1, 0, 81)], [(0, 0), (2, 2), (0, 0), (3, 3), (7, 7), (1, 1)], [], [], [(90, 1000000), (91, 1000000)]),
    ([(1, 0, 77)], [(0, 0), (2, 2), (0, 0), (3, 3), (7, 7), (0, 0)], [], [], [(90, 1000000), (91, 1000000)]),
    ([(1, 0, 9)], [(0, 0), (2, 2), (0, 0), (3, 3), (6, 6), (1, 1)], [], [], [(90, 1000000), (91, 1000000)]),
    ([(1, 0, 8)], [(0, 0), (2, 2), (0, 0), (3, 3), (6, 6), (0, 0)], [], [], [(90, 1000000), (91, 1000000)]),
    ([(1, 0, 81)], [(0, 0), (2, 2), (0, 0), (3, 3), (5, 5), (1, 1)], [], [], [(90, 1000000), (91, 1000000)]),
    ([(1, 0, 65)], [(0, 0), (2, 2), (0, 0), (3, 3), (5, 5), (0, 0)], [], [], [(90, 1000000), (91, 1000000)]),
    ([(1, 0, 81)], [(0, 0), (2, 2), (0, 0), (3, 3), (4, 4), (1, 1)], [], [], [(90, 1000000), (91, 1000000)]),
    ([(1, 0, 61)], [(0, 0), (2, 2), (0, 0), (3, 3), (4, 4), (0, 0)], [], [], [(90, 1000000), (91, 1000000)]),
    ([(1, 0, 27)], [(0, 0), (2, 2), (0, 0), (3, 3), (3, 3), (1, 1)], [], [], [(90, 1000000), (91, 1000000)]),
    ([(1, 0, 19)], [(0, 0), (2, 2), (0, 0), (3, 3), (3, 3), (0, 0)], [], [], [(90, 1000000), (91, 1000000)]),
    ([(1, 0, 27)], [(0, 0), (2, 2), (0, 0), (3, 3), (2, 2), (1, 1)], [], [], [(90, 1000000), (91, 1000000)]),
    ([(1, 0, 19)], [(0, 0), (2, 2), (0, 0), (3, 3), (2, 2), (0, 0)], [], [], [(90, 1000000), (91, 1000000)]),
    ([(1, 0, 27)], [(0, 0), (2, 2), (0, 0), (3, 3), (1, 1), (1, 1)], [], [], [(90, 1000000), (91, 1000000)]),
    ([(1, 0, 19)], [(0, 0), (2, 2), (0, 0), (3, 3), (1, 1), (0, 0)], [], [], [(90, 1000000), (91, 1000000)]),
    ([(1, 0, 27)], [(0, 0), (2, 2), (0, 0), (3, 3), (0, 0), (1, 1)], [], [], [(90, 1000000), (91, 1000000)]),
    ([(1, 0, 19)], [(0, 0), (2, 2), (0, 0), (3, 3), (0, 0), (0, 0)], [], [], [(90, 1000000), (91, 1000000)]),
    ([(1, 0, 1)], [(0, 0), (1, 1), (2, 2), (3, 3), (9, 9), (1, 1)], [], [], [(90, 1000000), (91, 1000000)]),
    ([(1, 0, 1)], [(0, 0), (1, 1), (2, 2), (3, 3), (9, 9), (0, 0)], [], [], [(90, 1000000), (91, 1000000)]),
    ([(1, 0, 9)], [(0, 0), (1, 1), (2, 2), (3, 3), (8, 8), (1, 1)], [], [], [(90, 1000000), (91, 1000000)]),
    ([(1, 0, 8)], [(0, 0), (1, 1), (2, 2), (3, 3), (8, 8), (0, 0)], [], [], [(90, 1000000), (91, 1000000)]),
    ([(1, 0, 9)], [(0, 0), (1, 1), (2, 2), (3, 3), (7, 7), (1, 1)], [], [], [(90, 1000000), (91, 1000000)]),
    ([(1, 0, 7)], [(0, 0), (1, 1), (2, 2), (3, 3), (7, 7), (0, 0)], [], [], [(90, 1000000), (91, 1000000)]),
    ([(1, 0, 3)], [(0, 0), (1, 1), (2, 2), (3, 3), (6, 6), (1, 1)], [], [], [(90, 1000000), (91, 1000000)]),
    ([(1, 0, 2)], [(0, 0), (1, 1), (2, 2), (3, 3), (6, 6), (0, 0)], [], [], [(90, 1000000), (91, 1000000)]),
    ([(1, 0, 9)], [(0, 0), (1, 1), (2, 2), (3, 3), (5, 5), (1, 1)], [], [], [(90, 1000000), (91, 1000000)]),
    ([(1, 0, 5)], [(0, 0), (1, 1), (2, 2), (3, 3), (5, 5), (0, 0)], [], [], [(90, 1000000), (91, 1000000)]),
    ([(1, 0, 9)], [(0, 0), (1, 1), (2, 2), (3, 3), (4, 4), (1, 1)], [], [], [(90, 1000000), (91, 1000000)]),
    ([(1, 0, 4)], [(0, 0), (1, 1), (2, 2), (3, 3), (4, 4), (0, 0)], [], [], [(90, 1000000), (91, 1000000)]),
    ([(1, 0, 3)], [(0, 0), (1, 1), (2, 2), (3, 3), (3, 3), (1, 1)], [], [], [(90, 1000000), (91, 1000000)]),
    ([(1, 0, 1)], [(0, 0), (1, 1), (2, 2), (3, 3), (3, 3), (0, 0)], [], [], [(90, 1000000), (91, 1000000)]),
    ([(1, 0, 9)], [(0, 0), (1, 1), (2, 2), (3, 3), (2, 2), (1, 1)], [], [], [(90, 1000000), (91, 1000000)]),
    ([(1, 0, 2)], [(0, 0), (1, 1), (2, 2), (3, 3), (2, 2), (0, 0)], [], [], [(90, 1000000), (91, 1000000)]),
    ([(1, 0, 9)], [(0, 0), (1, 1), (2, 2), (3, 3), (1, 1), (1, 1)], [], [], [(90, 1000000), (91, 1000000)]),
    ([(1, 0, 1)], [(0, 0), (1, 1), (2, 2), (3, 3), (1, 1), (0, 0)], [], [], [(90, 1000000), (91, 1000000)]),
    ([(1, 0, 9)], [(0, 0), (1, 1), (2, 2), (3, 3), (0, 0), (1, 1)], [], [], [(90, 1000000), (91, 1000000)]),
    ([(1, 0, 1)], [(0, 0), (1, 1), (2, 2), (3, 3), (0, 0), (0, 0)], [], [], [(90, 1000000), (91, 1000000)]),
    ([(1, 0, 1)], [(0, 0), (1, 1), (1, 1), (3, 3), (9, 9), (1, 1)], [], [], [(90, 1000000), (91, 1000000)]),
    ([(1, 0, 1)], [(0, 0), (1, 1), (1, 1), (3, 3), (9, 9), (0, 0)], [], [], [(90, 1000000), (91, 1000000)]),
    ([(1, 0, 81)], [(0, 0), (1, 1), (1, 1), (3, 3), (8, 8), (1, 1)], [], [], [(90, 1000000), (91, 1000000)]),
    ([(1, 0, 73)], [(0, 0), (1, 1), (1, 1), (3, 3), (8, 8), (0, 0)], [], [], [(90, 1000000), (91, 1000000)]),
    ([(1, 0, 81)], [(0, 0), (1, 1), (1, 1), (3, 3), (7, 7), (1, 1)], [], [], [(90, 1000000), (91, 1000000)]),
    ([(1, 0, 65)], [(0, 0), (1, 1), (1, 1), (3, 3), (7, 7), (0, 0)], [], [], [(90, 1000000), (91, 1000000)]),
    ([(1, 0, 27)], [(0, 0), (1, 1), (1, 1), (3, 3), (6, 6), (1, 1)], [], [], [(90, 1000000), (91, 1000000)]),
    ([(1, 0, 19)], [(0, 0), (1, 1), (1, 1), (3, 3), (6, 6), (0, 0)], [], [], [(90, 1000000), (91, 1000000)]),
    ([(1, 0, 81)], [(0, 0), (1, 1), (1, 1), (3, 3), (5, 5), (1, 1)], [], [], [(90, 1000000), (91, 1000000)]),
    ([(1, 0, 49)], [(0, 0), (1, 1), (1, 1), (3, 3), (5, 5), (0, 0)], [], [], [(90, 1000000), (91, 1000000)]),
    ([(1, 0, 81)], [(0, 0), (1, 1), (1, 1), (3, 3), (4, 4), (1, 1)], [], [], [(90, 1000000), (91, 1000000)]),
    ([(1, 0, 41)], [(0, 0), (1, 1), (1, 1), (3, 3), (4, 4), (0, 0)], [], [], [(90, 1000000), (91, 1000000)]),
    ([(1, 0, 27)], [(0, 0), (1, 1), (1, 1), (3, 3), (3, 3), (1, 1)], [], [], [(90, 1000000), (91, 1000000)]),
    ([(1, 0, 11)], [(0, 0), (1, 1), (1, 1), (3, 3), (3, 3), (0, 0)], [], [], [(90, 1000000), (91, 1000000)]),
    ([(1, 0, 3)], [(0, 0), (1, 1), (1, 1), (3, 3), (2, 2), (1, 1)], [], [], [(90, 1000000), (91, 1000000)]),
    ([(1, 0, 1)], [(0, 0), (1, 1), (1, 1), (3, 3), (2, 2), (0, 0)], [], [], [(90, 1000000), (91, 1000000)]),
    ([(1, 0, 27)], [(0, 0), (1, 1), (1, 1), (3, 3), (1, 1), (1, 1)], [], [], [(90, 1000000), (91, 1000000)]),
    ([(1, 0, 7)], [(0, 0), (1, 1), (1, 1), (3, 3), (1, 1), (0, 0)], [], [], [(90, 1000000), (91, 1000000)]),
    ([(1, 0, 27)], [(0, 0), (1, 1), (1, 1), (3, 3), (0, 0), (1, 1)], [], [], [(90, 1000000), (91, 1000000)]),
    ([(1, 0, 7)], [(0, 0), (1, 1), (1, 1), (3, 3), (0, 0), (0, 0)], [], [], [(90, 1000000), (91, 1000000)]),
    ([(1, 0, 1)], [(0, 0), (1, 1), (0, 0), (3, 3), (9, 9), (1, 1)], [], [], [(90, 1000000), (91, 1000000)]),
    ([(1, 0, 1)], [(0, 0), (1, 1), (0, 0), (3, 3), (9, 9), (0, 0)], [], [], [(90, 1000000), (91, 1000000)]),
    ([(1, 0, 81)], [(0, 0), (1, 1), (0, 0), (3, 3), (8, 8), (1, 1)], [], [], [(90, 1000000), (91, 1000000)]),
    ([(1, 0, 80)], [(0, 0), (1, 1), (0, 0), (3, 3), (8, 8), (0, 0)], [], [], [(90, 1000000), (91, 1000000)]),
    ([(1, 0, 81)], [(0, 0), (1, 1), (0, 0), (3, 3), (7, 7), (1, 1)], [], [], [(90, 1000000), (91, 1000000)]),
    ([(1, 0, 77)], [(0, 0), (1, 1), (0, 0), (3, 3), (7, 7), (0, 0)], [], [], [(90, 1000000), (91, 1000000)]),
    ([(1, 0, 9)], [(0, 0), (1, 1), (0, 0), (3, 3), (6, 6), (1, 1)], [], [], [(90, 1000000), (91, 1000000)]),
    ([(1, 0, 8)], [(0, 0), (1, 1), (0, 0), (3, 3), (6, 6), (0, 0)], [], [], [(90, 1000000), (91, 1000000)]),
    ([(1, 0, 81)], [(0, 0), (1, 1), (0, 0), (3, 3), (5, 5), (1, 1)], [], [], [(90, 1000000), (91, 1000000)]),
    ([(1, 0, 65)], [(0, 0), (1, 1), (0, 0), (3, 3), (5, 5), (0, 0)], [], [], [(90, 1000000), (91, 1000000)]),
    ([(1, 0, 81)], [(0, 0), (1, 1), (0, 0), (3, 3), (4, 4), (1, 1)], [], [], [(90, 1000000), (91, 1000000)]),
    ([(1, 0, 56)], [(0, 0), (1, 1), (0, 0), (3, 3), (4, 4), (0, 0)], [], [], [(90, 1000000), (91, 1000000)]),
    ([(1, 0, 9)], [(0, 0), (1, 1), (0, 0), (3, 3), (3, 3), (1, 1)], [], [], [(90, 1000000), (91, 1000000)]),
    ([(1, 0, 5)], [(0, 0), (1, 1), (0, 0), (3, 3), (3, 3), (0, 0)], [], [], [(90, 1000000), (91, 1000000)]),
    ([(1, 0, 81)], [(0, 0), (1, 1), (0, 0), (3, 3), (2, 2), (1, 1)], [], [], [(90, 1000000), (91, 1000000)]),
    ([(1, 0, 37)], [(0, 0), (1, 1), (0, 0), (3, 3), (2, 2), (0, 0)], [], [], [(90, 1000000), (91, 1000000)]),
    ([(1, 0, 27)], [(0, 0), (1, 1), (0, 0), (3, 3), (1, 1), (1, 1)], [], [], [(90, 1000000), (91, 1000000)]),
    ([(1, 0, 11)], [(0, 0), (1, 1), (0, 0), (3, 3), (1, 1), (0, 0)], [], [], [(90, 1000000), (91, 1000000)]),
    ([(1, 0, 27)], [(0, 0), (1, 1), (0, 0), (3, 3), (0, 0), (1, 1)], [], [], [(90, 1000000), (91, 1000000)]),
    ([(1, 0, 11)], [(0, 0), (1, 1), (0, 0), (3, 3), (0, 0), (0, 0)], [], [], [(90, 1000000), (91, 1000000)]),
    ([(1, 0, 1)], [(0, 0), (0, 0), (2, 2), (3, 3), (9, 9), (1, 1)], [], [], [(90, 1000000), (91, 1000000)]),
    ([(1, 0, 1)], [(0, 0), (0, 0), (2, 2), (3, 3), (9, 9), (0, 0)], [], [], [(90, 1000000), (91, 1000000)]),
    ([(1, 0, 81)], [(0, 0), (0, 0), (2, 2), (3, 3), (8, 8), (1, 1)], [], [], [(90, 1000000), (91, 1000000)]),
    ([(1, 0, 64)], [(0, 0), (0, 0), (2, 2), (3, 3), (8, 8), (0, 0)], [], [], [(90, 1000000), (91, 1000000)]),
    ([(1, 0, 81)], [(0, 0), (0, 0), (2, 2), (3, 3), (7, 7), (1, 1)], [], [], [(90, 1000000), (91, 1000000)]),
    ([(1, 0, 49)], [(0, 0), (0, 0), (2, 2), (3, 3), (7, 7), (0, 0)], [], [], [(90, 1000000), (91, 1000000)]),
    ([(1, 0, 9)], [(0, 0), (0, 0), (2, 2), (3, 3), (6, 6), (1, 1)], [], [], [(90, 1000000), (91, 1000000)]),
    ([(1, 0, 4)], [(0, 0), (0, 0), (2, 2), (3, 3), (6, 6), (0, 0)], [], [], [(90, 1000000), (91, 1000000)]),
    ([(1, 0, 81)], [(0, 0), (0, 0), (2, 2), (3, 3), (5, 5), (1, 1)], [], [], [(90, 1000000), (91, 1000000)]),
    ([(1, 0, 25)], [(0, 0), (0, 0), (2, 2), (3, 3), (5, 5), (0, 0)], [], [], [(90, 1000000), (91, 1000000)]),
    ([(1, 0, 81)], [(0, 0), (0, 0), (2, 2), (3, 3), (4, 4), (1, 1)], [], [], [(90, 1000000), (91, 1000000)]),
    ([(1, 0, 16)], [(0, 0), (0, 0), (2, 2), (3, 3), (4, 4), (0, 0)], [], [], [(90, 1000000), (91, 1000000)]),
    ([(1, 0, 9)], [(0, 0), (0, 0), (2, 2), (3, 3), (3, 3), (1, 1)], [], [], [(90, 1000000), (91, 1000000)]),
    ([(1, 0, 1)], [(0, 0), (0, 0), (2, 2), (3, 3), (3, 3), (0, 0)], [], [], [(90, 1000000), (91, 1000000)]),
    ([(1, 0, 27)], [(0, 0), (0, 0), (2, 2), (3, 3), (2, 2), (1, 1)], [], [], [(90, 1000000), (91, 1000000)]),
    ([(1, 0, 2)], [(0, 0), (0, 0), (2, 2), (3, 3), (2, 2), (0, 0)], [], [], [(90, 1000000), (91, 1000000)]),
    ([(1, 0, 27)], [(0, 0), (0, 0), (2, 2), (3, 3), (1, 1), (1, 1)], [], [], [(90, 1000000), (91, 1000000)]),
    ([(1, 0, 1)], [(0, 0), (0, 0), (2, 2), (3, 3), (1, 1), (0, 0)], [], [], [(90, 1000000), (91, 1000000)]),
    ([(1, 0, 27)], [(0, 0), (0, 0), (2, 2), (3, 3), (0, 0), (1, 1)], [], [], [(90, 1000000), (91, 1000000)]),
    ([(1, 0, 1)], [(0, 0), (0, 0), (2, 2), (3, 3), (0, 0), (0, 0)], [], [], [(90, 1000000), (91, 1000000)]),
    ([(1, 0, 1)], [(0, 0), (0, 0), (1, 1), (3, 3), (9, 9), (1, 1)], [], [], [(90, 1000000), (91, 1000000)]),
    ([(1, 0, 1)], [(0, 0), (0, 0), (1, 1), (3, 3), (9, 9), (0, 0)], [], [], [(90, 1000000), (91, 1000000)]),
    ([(1, 0, 81)], [(0, 0), (0, 0), (1, 1), (3, 3), (8, 8), (1, 1)], [], [], [(90, 1000000), (91, 1000000)]),
    ([(1, 0, 67)], [(0, 0), (0, 0), (1, 1), (3, 3), (8, 8), (0, 0)], [], [], [(90, 1000000), (91, 1000000)]),
    ([(1, 0, 243)], [(0, 0), (0, 0), (1, 1), (3, 3), (7, 7), (1, 1)], [], [], [(90, 1000000), (91, 1000000)]),
    ([(1, 0, 163)], [(0, 0), (0, 0), (1, 1), (3, 3), (7, 7), (0, 0)], [], [], [(90, 1000000), (91, 1000000)]),
    ([(1, 0, 81)], [(0, 0), (0, 0), (1, 1), (3, 3), (6, 6), (1, 1)], [], [], [(90, 1000000), (91, 1000000)]),
    ([(1, 0, 43)], [(0, 0), (0, 0), (1, 1), (3, 3), (6, 6), (0, 0)], [], [], [(90, 1000000), (91, 1000000)]),
    ([(1, 0, 27)], [(0, 0), (0, 0), (1, 1), (3, 3), (5, 5), (1, 1)], [], [], [(90, 1000000), (91, 1000000)]),
    ([(1, 0, 11)], [(0, 0), (0, 0), (1, 1), (3, 3), (5, 5), (0, 0)], [], [], [(90, 1000000), (91, 1000000)]),
    ([(1, 0, 243)], [(0, 0), (0, 0), (1, 1), (3, 3), (4, 4), (1, 1)], [], [], [(90, 1000000), (91, 1000000)]),
    ([(1, 0, 73)], [(0, 0), (0, 0), (1, 1), (3, 3), (4, 4), (0, 0)], [], [], [(90, 1000000), (91, 1000000)]),
    ([(1, 0, 81)], [(0, 0), (0, 0), (1, 1), (3, 3), (3, 3), (1, 1)], [], [], [(90, 1000000), (91, 1000000)]),
    ([(1, 0, 17)], [(0, 0), (0, 0), (1, 1), (3, 3), (3, 3), (0, 0)], [], [], [(90, 1000000), (91, 1000000)]),
    ([(1, 0, 81)], [(0, 0), (0, 0), (1, 1), (3, 3), (2, 2), (1, 1)], [], [], [(90, 1000000), (91, 1000000)]),
    ([(1, 0, 13)], [(0, 0), (0, 0), (1, 1), (3, 3), (2, 2), (0, 0)], [], [], [(90, 1000000), (91, 1000000)]),
    ([(1, 0, 9)], [(0, 0), (0, 0), (1, 1), (3, 3), (1, 1), (1, 1)], [], [], [(90, 1000000), (91, 1000000)]),
    ([(1, 0, 1)], [(0, 0), (0, 0), (1, 1), (3, 3), (1, 1), (0, 0)], [], [], [(90, 1000000), (91, 1000000)]),
    ([(1, 0, 9)], [(0, 0), (0, 0), (1, 1), (3, 3), (0, 0), (1, 1)], [], [], [(90, 1000000), (91, 1000000)]),
    ([(1, 0, 1)], [(0, 0), (0, 0), (1, 1), (3, 3), (0, 0), (0, 0)], [], [], [(90, 1000000), (91, 1000000)]),
    ([(1, 0, 1)], [(0, 0), (0, 0), (0, 0), (3, 3), (9, 9), (1, 1)], [], [], [(90, 1000000), (91, 1000000)]),
    ([(1, 0, 1)], [(0, 0), (0, 0), (0, 0), (3, 3), (9, 9), (0, 0)], [], [], [(90, 1000000), (91, 1000000)]),
    ([(1, 0, 729)], [(0, 0), (0, 0), (0, 0), (3, 3), (8, 8), (1, 1)], [], [], [(90, 1000000), (91, 1000000)]),
    ([(1, 0, 704)], [(0, 0), (0, 0), (0, 0), (3, 3), (8, 8), (0, 0)], [], [], [(90, 1000000), (91, 1000000)]),
    ([(1, 0, 729)], [(0, 0), (0, 0), (0, 0), (3, 3), (7, 7), (1, 1)], [], [], [(90, 1000000), (91, 1000000)]),
    ([(1, 0, 637)], [(0, 0), (0, 0), (0, 0), (3, 3), (7, 7), (0, 0)], [], [], [(90, 1000000), (91, 1000000)]),
    ([(1, 0, 27)], [(0, 0), (0, 0), (0, 0), (3, 3), (6, 6), (1, 1)], [], [], [(90, 1000000), (91, 1000000)]),
    ([(1, 0, 20)], [(0, 0), (0, 0), (0, 0), (3, 3), (6, 6), (0, 0)], [], [], [(90, 1000000), (91, 1000000)]),
    ([(1, 0, 729)], [(0, 0), (0, 0), (0, 0), (3, 3), (5, 5), (1, 1)], [], [], [(90, 1000000), (91, 1000000)]),
    ([(1, 0, 425)], [(0, 0), (0, 0), (0, 0), (3, 3), (5, 5), (0, 0)], [], [], [(90, 1000000), (91, 1000000)]),
    ([(1, 0, 9)], [(0, 0), (0, 0), (0, 0), (3, 3), (4, 4), (1, 1)], [], [], [(90, 1000000), (91, 1000000)]),
    ([(1, 0, 4)], [(0, 0), (0, 0), (0, 0), (3, 3), (4, 4), (0, 0)], [], [], [(90, 1000000), (91, 1000000)]),
    ([(1, 0, 243)], [(0, 0), (0, 0), (0, 0), (3, 3), (3, 3), (1, 1)], [], [], [(90, 1000000), (91, 1000000)]),
    ([(1, 0, 79)], [(0, 0), (0, 0), (0, 0), (3, 3), (3, 3), (0, 0)], [], [], [(90, 1000000), (91, 1000000)]),
    ([(1, 0, 27)], [(0, 0), (0, 0), (0, 0), (3, 3), (2, 2), (1, 1)], [], [], [(90, 1000000), (91, 1000000)]),
    ([(1, 0, 7)], [(0, 0), (0, 0), (0, 0), (3, 3), (2, 2), (0, 0)], [], [], [(90, 1000000), (91, 1000000)]),
    ([(1, 0, 81)], [(0, 0), (0, 0), (0, 0), (3, 3), (1, 1), (1, 1)], [], [], [(90, 1000000), (91, 1000000)]),
    ([(1, 0, 17)], [(0, 0), (0, 0), (0, 0), (3, 3), (1, 1), (0, 0)], [], [], [(90, 1000000), (91, 1000000)]),
    ([(1, 0, 81)], [(0, 0), (0, 0), (0, 0), (3, 3), (0, 0), (1, 1)], [], [], [(90, 1000000), (91, 1000000)]),
    ([(1, 0, 17)], [(0, 0), (0, 0), (0, 0), (3, 3), (0, 0), (0, 0)], [], [], [(90, 1000000), (91, 1000000)])])
def nxo_bolder_4 : List ab_OU := [([], [(0, 0), ((-2147483648), (-1)), ((-2147483648), 2147483647), (3, 3), ((-2147483648), 2147483647), ((-2147483648), 2147483647)], [], [], []),
    ([], [(0, 0), (3, 2147483647), ((-2147483648), 2147483647), (3, 3), ((-2147483648), 2147483647), ((-2147483648), 2147483647)], [], [], []),
    ([], [(0, 0), (0, 2), ((-2147483648), (-1)), (3, 3), ((-2147483648), 2147483647), ((-2147483648), 2147483647)], [], [], []),
    ([], [(0, 0), (0, 2), (3, 2147483647), (3, 3), ((-2147483648), 2147483647), ((-2147483648), 2147483647)], [], [], []),
    ([], [(0, 0), (0, 2), (0, 2), (3, 3), ((-2147483648), (-1)), ((-2147483648), 2147483647)], [], [], []),
    ([], [(0, 0), (0, 2), (0, 2), (3, 3), (10, 2147483647), ((-2147483648), 2147483647)], [], [], []),
    ([], [(0, 0), (0, 2), (0, 2), (3, 3), (0, 9), ((-2147483648), (-1))], [], [], []),
    ([], [(0, 0), (0, 2), (0, 2), (3, 3), (0, 9), (2, 2147483647)], [], [], [])]
def nxe_bolder_4_0 : ab_ND := (37, ([(0, (2, 0, 0)), (1, (0, 1, 0)), (2, (0, 2, 0)), (3, (0, 3, 0)), (4, (0, 4, 0)), (5, (0, 5, 0))], [], [(0, 0), ((-2147483648), (-1)), ((-2147483648), 2147483647), (3, 3), ((-2147483648), 2147483647), ((-2147483648), 2147483647)], [], [], []), ((0, [], []), (0, [], []), (0, [], [])))
def nxe_bolder_4_1 : ab_ND := (37, ([(0, (2, 0, 0)), (1, (0, 1, 0)), (2, (0, 2, 0)), (3, (0, 3, 0)), (4, (0, 4, 0)), (5, (0, 5, 0))], [], [(0, 0), (3, 2147483647), ((-2147483648), 2147483647), (3, 3), ((-2147483648), 2147483647), ((-2147483648), 2147483647)], [], [], []), ((0, [], []), (0, [], []), (0, [], [])))
def nxe_bolder_4_2 : ab_ND := (37, ([(0, (2, 0, 0)), (1, (0, 1, 0)), (2, (0, 2, 0)), (3, (0, 3, 0)), (4, (0, 4, 0)), (5, (0, 5, 0))], [], [(0, 0), (0, 2), ((-2147483648), (-1)), (3, 3), ((-2147483648), 2147483647), ((-2147483648), 2147483647)], [], [], []), ((0, [], []), (0, [], []), (0, [], [])))
def nxe_bolder_4_3 : ab_ND := (37, ([(0, (2, 0, 0)), (1, (0, 1, 0)), (2, (0, 2, 0)), (3, (0, 3, 0)), (4, (0, 4, 0)), (5, (0, 5, 0))], [], [(0, 0), (0, 2), (3, 2147483647), (3, 3), ((-2147483648), 2147483647), ((-2147483648), 2147483647)], [], [], []), ((0, [], []), (0, [], []), (0, [], [])))
def nxe_bolder_4_4 : ab_ND := (37, ([(0, (2, 0, 0)), (1, (0, 1, 0)), (2, (0, 2, 0)), (3, (0, 3, 0)), (4, (0, 4, 0)), (5, (0, 5, 0))], [], [(0, 0), (0, 2), (0, 2), (3, 3), ((-2147483648), (-1)), ((-2147483648), 2147483647)], [], [], []), ((0, [], []), (0, [], []), (0, [], [])))
def nxe_bolder_4_5 : ab_ND := (37, ([(0, (2, 0, 0)), (1, (0, 1, 0)), (2, (0, 2, 0)), (3, (0, 3, 0)), (4, (0, 4, 0)), (5, (0, 5, 0))], [], [(0, 0), (0, 2), (0, 2), (3, 3), (10, 2147483647), ((-2147483648), 2147483647)], [], [], []), ((0, [], []), (0, [], []), (0, [], [])))
def nxe_bolder_4_6 : ab_ND := (37, ([(0, (2, 0, 0)), (1, (0, 1, 0)), (2, (0, 2, 0)), (3, (0, 3, 0)), (4, (0, 4, 0)), (5, (0, 5, 0))], [], [(0, 0), (0, 2), (0, 2), (3, 3), (0, 9), ((-2147483648), (-1))], [], [], []), ((0, [], []), (0, [], []), (0, [], [])))
def nxe_bolder_4_7 : ab_ND := (37, ([(0, (2, 0, 0)), (1, (0, 1, 0)), (2, (0, 2, 0)), (3, (0, 3, 0)), (4, (0, 4, 0)), (5, (0, 5, 0))], [], [(0, 0), (0, 2), (0, 2), (3, 3), (0, 9), (2, 2147483647)], [], [], []), ((0, [], []), (0, [], []), (0, [], [])))
def nxm_bolder_4_0 : ab_ND := (0, (ab_en0 0 nxd_bolder_4.1, [], nxd_bolder_4.2.1, nxd_bolder_4.2.2.1, nxd_bolder_4.2.2.2.1, []), ((9000000000000000000000, [], []), (0, [], []), (0, [], [])))
def nxm_bolder_4_1 : ab_ND := (48, ([(0, (2, 0, 0)), (1, (0, 0, 2)), (2, (0, 0, 2)), (3, (0, 0, 3)), (4, (0, 4, 0)), (5, (0, 5, 0))], [(2, 0, 0)], [(0, 0), (2, 2), (2, 2), (3, 3), (0, 9), (0, 1)], [], [], []), ((0, [], []), (0, [], []), (0, [], [])))
def nxm_bolder_4_2 : ab_ND := (48, ([(0, (2, 0, 0)), (1, (0, 0, 2)), (2, (0, 0, 1)), (3, (0, 0, 3)), (4, (0, 4, 0)), (5, (0, 5, 0))], [(2, 0, 0)], [(0, 0), (2, 2), (1, 1), (3, 3), (0, 9), (0, 1)], [], [], []), ((1000000000000000000000, [], []), (0, [], []), (0, [], [])))
def nxm_bolder_4_3 : ab_ND := (48, ([(0, (2, 0, 0)), (1, (0, 0, 2)), (2, (0, 0, 0)), (3, (0, 0, 3)), (4, (0, 4, 0)), (5, (0, 5, 0))], [(2, 0, 0)], [(0, 0), (2, 2), (0, 0), (3, 3), (0, 9), (0, 1)], [], [], []), ((2000000000000000000000, [], []), (0, [], []), (0, [], [])))
def nxm_bolder_4_4 : ab_ND := (48, ([(0, (2, 0, 0)), (1, (0, 0, 1)), (2, (0, 0, 2)), (3, (0, 0, 3)), (4, (0, 4, 0)), (5, (0, 5, 0))], [(2, 0, 0)], [(0, 0), (1, 1), (2, 2), (3, 3), (0, 9), (0, 1)], [], [], []), ((3000000000000000000000, [], []), (0, [], []), (0, [], [])))
def nxm_bolder_4_5 : ab_ND := (48, ([(0, (2, 0, 0)), (1, (0, 0, 1)), (2, (0, 0, 1)), (3, (0, 0, 3)), (4, (0, 4, 0)), (5, (0, 5, 0))], [(2, 0, 0)], [(0, 0), (1, 1), (1, 1), (3, 3), (0, 9), (0, 1)], [], [], []), ((4000000000000000000000, [], []), (0, [], []), (0, [], [])))
def nxm_bolder_4_6 : ab_ND := (48, ([(0, (2, 0, 0)), (1, (0, 0, 1)), (2, (0, 0, 0)), (3, (0, 0, 3)), (4, (0, 4, 0)), (5, (0, 5, 0))], [(2, 0, 0)], [(0, 0), (1, 1), (0, 0), (3, 3), (0, 9), (0, 1)], [], [], []), ((5000000000000000000000, [], []), (0, [], []), (0, [], [])))
def nxm_bolder_4_7 : ab_ND := (48, ([(0, (2, 0, 0)), (1, (0, 0, 0)), (2, (0, 0, 2)), (3, (0, 0, 3)), (4, (0, 4, 0)), (5, (0, 5, 0))], [(2, 0, 0)], [(0, 0), (0, 0), (2, 2), (3, 3), (0, 9), (0, 1)], [], [], []), ((6000000000000000000000, [], []), (0, [], []), (0, [], [])))
def nxm_bolder_4_8 : ab_ND := (48, ([(0, (2, 0, 0)), (1, (0, 0, 0)), (2, (0, 0, 1)), (3, (0, 0, 3)), (4, (0, 4, 0)), (5, (0, 5, 0))], [(2, 0, 0)], [(0, 0), (0, 0), (1, 1), (3, 3), (0, 9), (0, 1)], [], [], []), ((7000000000000000000000, [], []), (0, [], []), (0, [], [])))
def nxm_bolder_4_9 : ab_ND := (48, ([(0, (2, 0, 0)), (1, (0, 0, 0)), (2, (0, 0, 0)), (3, (0, 0, 3)), (4, (0, 4, 0)), (5, (0, 5, 0))], [(2, 0, 0)], [(0, 0), (0, 0), (0, 0), (3, 3), (0, 9), (0, 1)], [], [], []), ((8000000000000000000000, [], []), (0, [], []), (0, [], [])))
def nxn_bolder_4 : List ab_ND := [nxm_bolder_4_0, nxm_bolder_4_1, nxm_bolder_4_2, nxm_bolder_4_3, nxm_bolder_4_4, nxm_bolder_4_5, nxm_bolder_4_6, nxm_bolder_4_7, nxm_bolder_4_8, nxm_bolder_4_9]
def nxk_bolder_4 : ab_KS := [(136, 0, le_736), (81, 0, le_737), (55, 0, le_738), (138, 1, le_747), (138, 1, le_753), (138, 1, le_762), (138, 1, le_766), (138, 1, le_768), (138, 1, le_776), (138, 1, le_780), (138, 1, le_782), (193, 0, le_786), (193, 0, le_787), (193, 0, le_789), (193, 0, le_790), (193, 0, le_792), (193, 0, le_793), (193, 0, le_795), (193, 0, le_796), (193, 0, le_798), (193, 0, le_799), (193, 0, le_801), (193, 0, le_802), (193, 0, le_804), (193, 0, le_805), (193, 0, le_807), (193, 0, le_808), (193, 0, le_810), (193, 0, le_811), (193, 0, le_815), (193, 0, le_816), (193, 0, le_817), (193, 0, le_818), (193, 0, le_819), (193, 0, le_820), (193, 0, le_821), (193, 0, le_822), (193, 0, le_825), (193, 0, le_826), (193, 0, le_827), (193, 0, le_828), (193, 0, le_829), (193, 0, le_830), (193, 0, le_831), (193, 0, le_832), (193, 0, le_833), (193, 0, le_834), (138, 1, le_840), (193, 0, le_841), (193, 0, le_842), (193, 0, le_843), (193, 0, le_844), (193, 0, le_845), (193, 0, le_846), (193, 0, le_847), (193, 0, le_848), (193, 0, le_851), (193, 0, le_852), (193, 0, le_867), (193, 0, le_868), (193, 0, le_869), (193, 0, le_870), (193, 0, le_871), (193, 0, le_872), (193, 0, le_873), (193, 0, le_874), (193, 0, le_881), (193, 0, le_882), (193, 0, le_931), (193, 0, le_932), (137, 2, le_993), (137, 2, le_994), (137, 2, le_995), (137, 2, le_996), (137, 2, le_997), (137, 2, le_998), (137, 2, le_999), (137, 2, le_1000), (137, 2, le_1001), (137, 2, le_1002), (193, 0, le_1003), (193, 0, le_1004), (193, 0, le_1005), (193, 0, le_1006), (193, 0, le_1007), (193, 0, le_1008), (193, 0, le_1009), (193, 0, le_1010), (193, 0, le_1011), (193, 0, le_1012), (193, 0, le_1013), (193, 0, le_1014), (193, 0, le_1015), (193, 0, le_1016), (193, 0, le_1017), (193, 0, le_1018), (193, 0, le_1019), (193, 0, le_1020), (193, 0, le_1021), (193, 0, le_1022), (193, 0, le_1023), (193, 0, le_1024)]
theorem nxc_bolder_4_0 : ab_cn vwCl nn_T nn_C nn_sh nn_MT (nn_KI1.map (fun x => x.1)) (nn_KJ1.map (fun x => x.1)) (nn_PF1.map (fun x => x.1)) nn_kd (nn_PS1.map (fun x => x.1)) (nn_PM1.map (fun x => x.1)) nxk_bolder_4 3 0 nn_dt200 6 nxd_bolder_4.2.1.length nxd_bolder_4.2.2.2.2 2 [] [37, 47, 48] [(47, [(0, 3, 0, 0), (0, 1, 0, 0), (0, 2, 0, 0)]), (48, [(0, 4, 0, 0), (0, 5, 0, 0)])] [nxe_bolder_4_0, nxe_bolder_4_1, nxe_bolder_4_2, nxe_bolder_4_3, nxe_bolder_4_4, nxe_bolder_4_5, nxe_bolder_4_6, nxe_bolder_4_7] nxn_bolder_4 21 nxm_bolder_4_0 = true := by decide +kernel
theorem nxc_bolder_4_1 : ab_cn vwCl nn_T nn_C nn_sh nn_MT (nn_KI1.map (fun x => x.1)) (nn_KJ1.map (fun x => x.1)) (nn_PF1.map (fun x => x.1)) nn_kd (nn_PS1.map (fun x => x.1)) (nn_PM1.map (fun x => x.1)) nxk_bolder_4 3 0 nn_dt200 6 nxd_bolder_4.2.1.length nxd_bolder_4.2.2.2.2 2 [] [37, 47, 48] [(47, [(0, 3, 0, 0), (0, 1, 0, 0), (0, 2, 0, 0)]), (48, [(0, 4, 0, 0), (0, 5, 0, 0)])] [nxe_bolder_4_0, nxe_bolder_4_1, nxe_bolder_4_2, nxe_bolder_4_3, nxe_bolder_4_4, nxe_bolder_4_5, nxe_bolder_4_6, nxe_bolder_4_7] nxn_bolder_4 21 nxm_bolder_4_1 = true := by decide +kernel
theorem nxc_bolder_4_2 : ab_cn vwCl nn_T nn_C nn_sh nn_MT (nn_KI1.map (fun x => x.1)) (nn_KJ1.map (fun x => x.1)) (nn_PF1.map (fun x => x.1)) nn_kd (nn_PS1.map (fun x => x.1)) (nn_PM1.map (fun x => x.1)) nxk_bolder_4 3 0 nn_dt200 6 nxd_bolder_4.2.1.length nxd_bolder_4.2.2.2.2 2 [] [37, 47, 48] [(47, [(0, 3, 0, 0), (0, 1, 0, 0), (0, 2, 0, 0)]), (48, [(0, 4, 0, 0), (0, 5, 0, 0)])] [nxe_bolder_4_0, nxe_bolder_4_1, nxe_bolder_4_2, nxe_bolder_4_3, nxe_bolder_4_4, nxe_bolder_4_5, nxe_bolder_4_6, nxe_bolder_4_7] nxn_bolder_4 21 nxm_bolder_4_2 = true := by decide +kernel
theorem nxc_bolder_4_3 : ab_cn vwCl nn_T nn_C nn_sh nn_MT (nn_KI1.map (fun x => x.1)) (nn_KJ1.map (fun x => x.1)) (nn_PF1.map (fun x => x.1)) nn_kd (nn_PS1.map (fun x => x.1)) (nn_PM1.map (fun x => x.1)) nxk_bolder_4 3 0 nn_dt200 6 nxd_bolder_4.2.1.length nxd_bolder_4.2.2.2.2 2 [] [37, 47, 48] [(47, [(0, 3, 0, 0), (0, 1, 0, 0), (0, 2, 0, 0)]), (48, [(0, 4, 0, 0), (0, 5, 0, 0)])] [nxe_bolder_4_0, nxe_bolder_4_1, nxe_bolder_4_2, nxe_bolder_4_3, nxe_bolder_4_4, nxe_bolder_4_5, nxe_bolder_4_6, nxe_bolder_4_7] nxn_bolder_4 21 nxm_bolder_4_3 = true := by decide +kernel
theorem nxc_bolder_4_4 : ab_cn vwCl nn_T nn_C nn_sh nn_MT (nn_KI1.map (fun x => x.1)) (nn_KJ1.map (fun x => x.1)) (nn_PF1.map (fun x => x.1)) nn_kd (nn_PS1.map (fun x => x.1)) (nn_PM1.map (fun x => x.1)) nxk_bolder_4 3 0 nn_dt200 6 nxd_bolder_4.2.1.length nxd_bolder_4.2.2.2.2 2 [] [37, 47, 48] [(47, [(0, 3, 0, 0), (0, 1, 0, 0), (0, 2, 0, 0)]), (48, [(0, 4, 0, 0), (0, 5, 0, 0)])] [nxe_bolder_4_0, nxe_bolder_4_1, nxe_bolder_4_2, nxe_bolder_4_3, nxe_bolder_4_4, nxe_bolder_4_5, nxe_bolder_4_6, nxe_bolder_4_7] nxn_bolder_4 21 nxm_bolder_4_4 = true := by decide +kernel
theorem nxc_bolder_4_5 : ab_cn vwCl nn_T nn_C nn_sh nn_MT (nn_KI1.map (fun x => x.1)) (nn_KJ1.map (fun x => x.1)) (nn_PF1.map (fun x => x.1)) nn_kd (nn_PS1.map (fun x => x.1)) (nn_PM1.map (fun x => x.1)) nxk_bolder_4 3 0 nn_dt200 6 nxd_bolder_4.2.1.length nxd_bolder_4.2.2.2.2 2 [] [37, 47, 48] [(47, [(0, 3, 0, 0), (0, 1, 0, 0), (0, 2, 0, 0)]), (48, [(0, 4, 0, 0), (0, 5, 0, 0)])] [nxe_bolder_4_0, nxe_bolder_4_1, nxe_bolder_4_2, nxe_bolder_4_3, nxe_bolder_4_4, nxe_bolder_4_5, nxe_bolder_4_6, nxe_bolder_4_7] nxn_bolder_4 21 nxm_bolder_4_5 = true := by decide +kernel
theorem nxc_bolder_4_6 : ab_cn vwCl nn_T nn_C nn_sh nn_MT (nn_KI1.map (fun x => x.1)) (nn_KJ1.map (fun x => x.1)) (nn_PF1.map (fun x => x.1)) nn_kd (nn_PS1.map (fun x => x.1)) (nn_PM1.map (fun x => x.1)) nxk_bolder_4 3 0 nn_dt200 6 nxd_bolder_4.2.1.length nxd_bolder_4.2.2.2.2 2 [] [37, 47, 48] [(47, [(0, 3, 0, 0), (0, 1, 0, 0), (0, 2, 0, 0)]), (48, [(0, 4, 0, 0), (0, 5, 0, 0)])] [nxe_bolder_4_0, nxe_bolder_4_1, nxe_bolder_4_2, nxe_bolder_4_3, nxe_bolder_4_4, nxe_bolder_4_5, nxe_bolder_4_6, nxe_bolder_4_7] nxn_bolder_4 21 nxm_bolder_4_6 = true := by decide +kernel
theorem nxc_bolder_4_7 : ab_cn vwCl nn_T nn_C nn_sh nn_MT (nn_KI1.map (fun x => x.1)) (nn_KJ1.map (fun x => x.1)) (nn_PF1.map (fun x => x.1)) nn_kd (nn_PS1.map (fun x => x.1)) (nn_PM1.map (fun x => x.1)) nxk_bolder_4 3 0 nn_dt200 6 nxd_bolder_4.2.1.length nxd_bolder_4.2.2.2.2 2 [] [37, 47, 48] [(47, [(0, 3, 0, 0), (0, 1, 0, 0), (0, 2, 0, 0)]), (48, [(0, 4, 0, 0), (0, 5, 0, 0)])] [nxe_bolder_4_0, nxe_bolder_4_1, nxe_bolder_4_2, nxe_bolder_4_3, nxe_bolder_4_4, nxe_bolder_4_5, nxe_bolder_4_6, nxe_bolder_4_7] nxn_bolder_4 21 nxm_bolder_4_7 = true := by decide +kernel
theorem nxc_bolder_4_8 : ab_cn vwCl nn_T nn_C nn_sh nn_MT (nn_KI1.map (fun x => x.1)) (nn_KJ1.map (fun x => x.1)) (nn_PF1.map (fun x => x.1)) nn_kd (nn_PS1.map (fun x => x.1)) (nn_PM1.map (fun x => x.1)) nxk_bolder_4 3 0 nn_dt200 6 nxd_bolder_4.2.1.length nxd_bolder_4.2.2.2.2 2 [] [37, 47, 48] [(47, [(0, 3, 0, 0), (0, 1, 0, 0), (0, 2, 0, 0)]), (48, [(0, 4, 0, 0), (0, 5, 0, 0)])] [nxe_bolder_4_0, nxe_bolder_4_1, nxe_bolder_4_2, nxe_bolder_4_3, nxe_bolder_4_4, nxe_bolder_4_5, nxe_bolder_4_6, nxe_bolder_4_7] nxn_bolder_4 21 nxm_bolder_4_8 = true := by decide +kernel
theorem nxc_bolder_4_9 : ab_cn vwCl nn_T nn_C nn_sh nn_MT (nn_KI1.map (fun x => x.1)) (nn_KJ1.map (fun x => x.1)) (nn_PF1.map (fun x => x.1)) nn_kd (nn_PS1.map (fun x => x.1)) (nn_PM1.map (fun x => x.1)) nxk_bolder_4 3 0 nn_dt200 6 nxd_bolder_4.2.1.length nxd_bolder_4.2.2.2.2 2 [] [37, 47, 48] [(47, [(0, 3, 0, 0), (0, 1, 0, 0), (0, 2, 0, 0)]), (48, [(0, 4, 0, 0), (0, 5, 0, 0)])] [nxe_bolder_4_0, nxe_bolder_4_1, nxe_bolder_4_2, nxe_bolder_4_3, nxe_bolder_4_4, nxe_bolder_4_5, nxe_bolder_4_6, nxe_bolder_4_7] nxn_bolder_4 21 nxm_bolder_4_9 = true := by decide +kernel
theorem nxc_bolder_4 : nxn_bolder_4.all (ab_cn vwCl nn_T nn_C nn_sh nn_MT (nn_KI1.map (fun x => x.1)) (nn_KJ1.map (fun x => x.1)) (nn_PF1.map (fun x => x.1)) nn_kd (nn_PS1.map (fun x => x.1)) (nn_PM1.map (fun x => x.1)) nxk_bolder_4 3 0 nn_dt200 6 nxd_bolder_4.2.1.length nxd_bolder_4.2.2.2.2 2 [] [37, 47, 48] [(47, [(0, 3, 0, 0), (0, 1, 0, 0), (0, 2, 0, 0)]), (48, [(0, 4, 0, 0), (0, 5, 0, 0)])] [nxe_bolder_4_0, nxe_bolder_4_1, nxe_bolder_4_2, nxe_bolder_4_3, nxe_bolder_4_4, nxe_bolder_4_5, nxe_bolder_4_6, nxe_bolder_4_7] nxn_bolder_4 21) = true := List.all_eq_true.mpr (List.forall_mem_cons.mpr ⟨nxc_bolder_4_0, List.forall_mem_cons.mpr ⟨nxc_bolder_4_1, List.forall_mem_cons.mpr ⟨nxc_bolder_4_2, List.forall_mem_cons.mpr ⟨nxc_bolder_4_3, List.forall_mem_cons.mpr ⟨nxc_bolder_4_4, List.forall_mem_cons.mpr ⟨nxc_bolder_4_5, List.forall_mem_cons.mpr ⟨nxc_bolder_4_6, List.forall_mem_cons.mpr ⟨nxc_bolder_4_7, List.forall_mem_cons.mpr ⟨nxc_bolder_4_8, List.forall_mem_cons.mpr ⟨nxc_bolder_4_9, fun _ h => absurd h List.not_mem_nil⟩⟩⟩⟩⟩⟩⟩⟩⟩⟩)
set_option maxHeartbeats 4000000 in
theorem nxt_bolder_4 (l : Launch) (htr : l.stackTraces = false) (cy : Nat → ClassId) (ad wr cr : Nat → Nat) (D : va_G) (hinj : nn_inj ad) : nx_H l cy ad wr cr D (200, 3, nxd_bolder_4, nxo_bolder_4) := by
  refine nx_holdW (mr := (⟨"NameNotes", "bolder", "(IIIII)J"⟩, prog_1_method_37_code, 6, (Option.some Jvm.ClassFile.FieldType.long), 5, true, 2)) (dt := nn_dt200) (KS := nxk_bolder_4) htr hinj rfl rfl (by decide +kernel) nn_KI1_ok nn_KJ1_ok nn_PF1_ok nn_PS1_ok nn_PM1_ok (List.forall_mem_cons.mpr ⟨lf_736 l cy ad wr cr D hinj, List.forall_mem_cons.mpr ⟨lf_737 l cy ad wr cr D hinj, List.forall_mem_cons.mpr ⟨lf_738 l cy ad wr cr D hinj, List.forall_mem_cons.mpr ⟨lf_747 l cy ad wr cr D hinj, List.forall_mem_cons.mpr ⟨lf_753 l cy ad wr cr D hinj, List.forall_mem_cons.mpr ⟨lf_762 l cy ad wr cr D hinj, List.forall_mem_cons.mpr ⟨lf_766 l cy ad wr cr D hinj, List.forall_mem_cons.mpr ⟨lf_768 l cy ad wr cr D hinj, List.forall_mem_cons.mpr ⟨lf_776 l cy ad wr cr D hinj, List.forall_mem_cons.mpr ⟨lf_780 l cy ad wr cr D hinj, List.forall_mem_cons.mpr ⟨lf_782 l cy ad wr cr D hinj, List.forall_mem_cons.mpr ⟨lf_786 l cy ad wr cr D hinj, List.forall_mem_cons.mpr ⟨lf_787 l cy ad wr cr D hinj, List.forall_mem_cons.mpr ⟨lf_789 l cy ad wr cr D hinj, List.forall_mem_cons.mpr ⟨lf_790 l cy ad wr cr D hinj, List.forall_mem_cons.mpr ⟨lf_792 l cy ad wr cr D hinj, List.forall_mem_cons.mpr ⟨lf_793 l cy ad wr cr D hinj, List.forall_mem_cons.mpr ⟨lf_795 l cy ad wr cr D hinj, List.forall_mem_cons.mpr ⟨lf_796 l cy ad wr cr D hinj, List.forall_mem_cons.mpr ⟨lf_798 l cy ad wr cr D hinj, List.forall_mem_cons.mpr ⟨lf_799 l cy ad wr cr D hinj, List.forall_mem_cons.mpr ⟨lf_801 l cy ad wr cr D hinj, List.forall_mem_cons.mpr ⟨lf_802 l cy ad wr cr D hinj, List.forall_mem_cons.mpr ⟨lf_804 l cy ad wr cr D hinj, List.forall_mem_cons.mpr ⟨lf_805 l cy ad wr cr D hinj, List.forall_mem_cons.mpr ⟨lf_807 l cy ad wr cr D hinj, List.forall_mem_cons.mpr ⟨lf_808 l cy ad wr cr D hinj, List.forall_mem_cons.mpr ⟨lf_810 l cy ad wr cr D hinj, List.forall_mem_cons.mpr ⟨lf_811 l cy ad wr cr D hinj, List.forall_mem_cons.mpr ⟨lf_815 l cy ad wr cr D hinj, List.forall_mem_cons.mpr ⟨lf_816 l cy ad wr cr D hinj, List.forall_mem_cons.mpr ⟨lf_817 l cy ad wr cr D hinj, List.forall_mem_cons.mpr ⟨lf_818 l cy ad wr cr D hinj, List.forall_mem_cons.mpr ⟨lf_819 l cy ad wr cr D hinj, List.forall_mem_cons.mpr ⟨lf_820 l cy ad wr cr D hinj, List.forall_mem_cons.mpr ⟨lf_821 l cy ad wr cr D hinj, List.forall_mem_cons.mpr ⟨lf_822 l cy ad wr cr D hinj, List.forall_mem_cons.mpr ⟨lf_825 l cy ad wr cr D hinj, List.forall_mem_cons.mpr ⟨lf_826 l cy ad wr cr D hinj, List.forall_mem_cons.mpr ⟨lf_827 l cy ad wr cr D hinj, List.forall_mem_cons.mpr ⟨lf_828 l cy ad wr cr D hinj, List.forall_mem_cons.mpr ⟨lf_829 l cy ad wr cr D hinj, List.forall_mem_cons.mpr ⟨lf_830 l cy ad wr cr D hinj, List.forall_mem_cons.mpr ⟨lf_831 l cy ad wr cr D hinj, List.forall_mem_cons.mpr ⟨lf_832 l cy ad wr cr D hinj, List.forall_mem_cons.mpr ⟨lf_833 l cy ad wr cr D hinj, List.forall_mem_cons.mpr ⟨lf_834 l cy ad wr cr D hinj, List.forall_mem_cons.mpr ⟨lf_840 l cy ad wr cr D hinj, List.forall_mem_cons.mpr ⟨lf_841 l cy ad wr cr D hinj, List.forall_mem_cons.mpr ⟨lf_842 l cy ad wr cr D hinj, List.forall_mem_cons.mpr ⟨lf_843 l cy ad wr cr D hinj, List.forall_mem_cons.mpr ⟨lf_844 l cy ad wr cr D hinj, List.forall_mem_cons.mpr ⟨lf_845 l cy ad wr cr D hinj, List.forall_mem_cons.mpr ⟨lf_846 l cy ad wr cr D hinj, List.forall_mem_cons.mpr ⟨lf_847 l cy ad wr cr D hinj, List.forall_mem_cons.mpr ⟨lf_848 l cy ad wr cr D hinj, List.forall_mem_cons.mpr ⟨lf_851 l cy ad wr cr D hinj, List.forall_mem_cons.mpr ⟨lf_852 l cy ad wr cr D hinj, List.forall_mem_cons.mpr ⟨lf_867 l cy ad wr cr D hinj, List.forall_mem_cons.mpr ⟨lf_868 l cy ad wr cr D hinj, List.forall_mem_cons.mpr ⟨lf_869 l cy ad wr cr D hinj, List.forall_mem_cons.mpr ⟨lf_870 l cy ad wr cr D hinj, List.forall_mem_cons.mpr ⟨lf_871 l cy ad wr cr D hinj, List.forall_mem_cons.mpr ⟨lf_872 l cy ad wr cr D hinj, List.forall_mem_cons.mpr ⟨lf_873 l cy ad wr cr D hinj, List.forall_mem_cons.mpr ⟨lf_874 l cy ad wr cr D hinj, List.forall_mem_cons.mpr ⟨lf_881 l cy ad wr cr D hinj, List.forall_mem_cons.mpr ⟨lf_882 l cy ad wr cr D hinj, List.forall_mem_cons.mpr ⟨lf_931 l cy ad wr cr D hinj, List.forall_mem_cons.mpr ⟨lf_932 l cy ad wr cr D hinj, List.forall_mem_cons.mpr ⟨lf_993 l cy ad wr cr D hinj, List.forall_mem_cons.mpr ⟨lf_994 l cy ad wr cr D hinj, List.forall_mem_cons.mpr ⟨lf_995 l cy ad wr cr D hinj, List.forall_mem_cons.mpr ⟨lf_996 l cy ad wr cr D hinj, List.forall_mem_cons.mpr ⟨lf_997 l cy ad wr cr D hinj, List.forall_mem_cons.mpr ⟨lf_998 l cy ad wr cr D hinj, List.forall_mem_cons.mpr ⟨lf_999 l cy ad wr cr D hinj, List.forall_mem_cons.mpr ⟨lf_1000 l cy ad wr cr D hinj, List.forall_mem_cons.mpr ⟨lf_1001 l cy ad wr cr D hinj, List.forall_mem_cons.mpr ⟨lf_1002 l cy ad wr cr D hinj, List.forall_mem_cons.mpr ⟨lf_1003 l cy ad wr cr D hinj, List.forall_mem_cons.mpr ⟨lf_1004 l cy ad wr cr D hinj, List.forall_mem_cons.mpr ⟨lf_1005 l cy ad wr cr D hinj, List.forall_mem_cons.mpr ⟨lf_1006 l cy ad wr cr D hinj, List.forall_mem_cons.mpr ⟨lf_1007 l cy ad wr cr D hinj, List.forall_mem_cons.mpr ⟨lf_1008 l cy ad wr cr D hinj, List.forall_mem_cons.mpr ⟨lf_1009 l cy ad wr cr D hinj, List.forall_mem_cons.mpr ⟨lf_1010 l cy ad wr cr D hinj, List.forall_mem_cons.mpr ⟨lf_1011 l cy ad wr cr D hinj, List.forall_mem_cons.mpr ⟨lf_1012 l cy ad wr cr D hinj, List.forall_mem_cons.mpr ⟨lf_1013 l cy ad wr cr D hinj, List.forall_mem_cons.mpr ⟨lf_1014 l cy ad wr cr D hinj, List.forall_mem_cons.mpr ⟨lf_1015 l cy ad wr cr D hinj, List.forall_mem_cons.mpr ⟨lf_1016 l cy ad wr cr D hinj, List.forall_mem_cons.mpr ⟨lf_1017 l cy ad wr cr D hinj, List.forall_mem_cons.mpr ⟨lf_1018 l cy ad wr cr D hinj, List.forall_mem_cons.mpr ⟨lf_1019 l cy ad wr cr D hinj, List.forall_mem_cons.mpr ⟨lf_1020 l cy ad wr cr D hinj, List.forall_mem_cons.mpr ⟨lf_1021 l cy ad wr cr D hinj, List.forall_mem_cons.mpr ⟨lf_1022 l cy ad wr cr D hinj, List.forall_mem_cons.mpr ⟨lf_1023 l cy ad wr cr D hinj, List.forall_mem_cons.mpr ⟨lf_1024 l cy ad wr cr D hinj, fun _ h => absurd h List.not_mem_nil⟩⟩⟩⟩⟩⟩⟩⟩⟩⟩⟩⟩⟩⟩⟩⟩⟩⟩⟩⟩⟩⟩⟩⟩⟩⟩⟩⟩⟩⟩⟩⟩⟩⟩⟩⟩⟩⟩⟩⟩⟩⟩⟩⟩⟩⟩⟩⟩⟩⟩⟩⟩⟩⟩⟩⟩⟩⟩⟩⟩⟩⟩⟩⟩⟩⟩⟩⟩⟩⟩⟩⟩⟩⟩⟩⟩⟩⟩⟩⟩⟩⟩⟩⟩⟩⟩⟩⟩⟩⟩⟩⟩⟩⟩⟩⟩⟩⟩⟩⟩⟩⟩) ?_
  intro p e s m below meth c R Q ρ σ hE hK hsy hP hRT hTH
  refine ab_entry (lev := 3) (sp := []) (HD := [37, 47, 48]) (HN := [(47, [(0, 3, 0, 0), (0, 1, 0, 0), (0, 2, 0, 0)]), (48, [(0, 4, 0, 0), (0, 5, 0, 0)])]) (EX := [nxe_bolder_4_0, nxe_bolder_4_1, nxe_bolder_4_2, nxe_bolder_4_3, nxe_bolder_4_4, nxe_bolder_4_5, nxe_bolder_4_6, nxe_bolder_4_7]) (NS := nxn_bolder_4) (fuel := 21) (mu := ((9000000000000000000000, [], []), (0, [], []), (0, [], []))) hE (by decide +kernel) hK hsy hP List.mem_cons_self hRT ?_ (fun nd hnd => List.all_eq_true.mp nxc_bolder_4 nd hnd)
  intro nd hnd ρ2 σ2 H locs ls st hG
  rcases List.mem_cons.mp hnd with rfl | hnd
  · exact hTH 37 _ ρ2 σ2 H locs ls st 213 "no such ones" 5 (by decide +kernel) rfl (by decide +kernel) (show decode prog_1_method_37_code 37 = .ok (.new 211, 3) by decide +kernel) (show decode prog_1_method_37_code 40 = .ok (.dup, 1) by decide +kernel) (Or.inl ⟨(show decode prog_1_method_37_code 41 = .ok (.ldc 213, 2) by decide +kernel), (show decode prog_1_method_37_code 43 = .ok (.invokespecial 215, 3) by decide +kernel), (show decode prog_1_method_37_code 46 = .ok (.athrow, 1) by decide +kernel)⟩) hG
  rcases List.mem_cons.mp hnd with rfl | hnd
  · exact hTH 37 _ ρ2 σ2 H locs ls st 213 "no such ones" 5 (by decide +kernel) rfl (by decide +kernel) (show decode prog_1_method_37_code 37 = .ok (.new 211, 3) by decide +kernel) (show decode prog_1_method_37_code 40 = .ok (.dup, 1) by decide +kernel) (Or.inl ⟨(show decode prog_1_method_37_code 41 = .ok (.ldc 213, 2) by decide +kernel), (show decode prog_1_method_37_code 43 = .ok (.invokespecial 215, 3) by decide +kernel), (show decode prog_1_method_37_code 46 = .ok (.athrow, 1) by decide +kernel)⟩) hG
  rcases List.mem_cons.mp hnd with rfl | hnd
  · exact hTH 37 _ ρ2 σ2 H locs ls st 213 "no such ones" 5 (by decide +kernel) rfl (by decide +kernel) (show decode prog_1_method_37_code 37 = .ok (.new 211, 3) by decide +kernel) (show decode prog_1_method_37_code 40 = .ok (.dup, 1) by decide +kernel) (Or.inl ⟨(show decode prog_1_method_37_code 41 = .ok (.ldc 213, 2) by decide +kernel), (show decode prog_1_method_37_code 43 = .ok (.invokespecial 215, 3) by decide +kernel), (show decode prog_1_method_37_code 46 = .ok (.athrow, 1) by decide +kernel)⟩) hG
  rcases List.mem_cons.mp hnd with rfl | hnd
  · exact hTH 37 _ ρ2 σ2 H locs ls st 213 "no such ones" 5 (by decide +kernel) rfl (by decide +kernel) (show decode prog_1_method_37_code 37 = .ok (.new 211, 3) by decide +kernel) (show decode prog_1_method_37_code 40 = .ok (.dup, 1) by decide +kernel) (Or.inl ⟨(show decode prog_1_method_37_code 41 = .ok (.ldc 213, 2) by decide +kernel), (show decode prog_1_method_37_code 43 = .ok (.invokespecial 215, 3) by decide +kernel), (show decode prog_1_method_37_code 46 = .ok (.athrow, 1) by decide +kernel)⟩) hG
  rcases List.mem_cons.mp hnd with rfl | hnd
  · exact hTH 37 _ ρ2 σ2 H locs ls st 213 "no such ones" 5 (by decide +kernel) rfl (by decide +kernel) (show decode prog_1_method_37_code 37 = .ok (.new 211, 3) by decide +kernel) (show decode prog_1_method_37_code 40 = .ok (.dup, 1) by decide +kernel) (Or.inl ⟨(show decode prog_1_method_37_code 41 = .ok (.ldc 213, 2) by decide +kernel), (show decode prog_1_method_37_code 43 = .ok (.invokespecial 215, 3) by decide +kernel), (show decode prog_1_method_37_code 46 = .ok (.athrow, 1) by decide +kernel)⟩) hG
  rcases List.mem_cons.mp hnd with rfl | hnd
  · exact hTH 37 _ ρ2 σ2 H locs ls st 213 "no such ones" 5 (by decide +kernel) rfl (by decide +kernel) (show decode prog_1_method_37_code 37 = .ok (.new 211, 3) by decide +kernel) (show decode prog_1_method_37_code 40 = .ok (.dup, 1) by decide +kernel) (Or.inl ⟨(show decode prog_1_method_37_code 41 = .ok (.ldc 213, 2) by decide +kernel), (show decode prog_1_method_37_code 43 = .ok (.invokespecial 215, 3) by decide +kernel), (show decode prog_1_method_37_code 46 = .ok (.athrow, 1) by decide +kernel)⟩) hG
  rcases List.mem_cons.mp hnd with rfl | hnd
  · exact hTH 37 _ ρ2 σ2 H locs ls st 213 "no such ones" 5 (by decide +kernel) rfl (by decide +kernel) (show decode prog_1_method_37_code 37 = .ok (.new 211, 3) by decide +kernel) (show decode prog_1_method_37_code 40 = .ok (.dup, 1) by decide +kernel) (Or.inl ⟨(show decode prog_1_method_37_code 41 = .ok (.ldc 213, 2) by decide +kernel), (show decode prog_1_method_37_code 43 = .ok (.invokespecial 215, 3) by decide +kernel), (show decode prog_1_method_37_code 46 = .ok (.athrow, 1) by decide +kernel)⟩) hG
  rcases List.mem_cons.mp hnd with rfl | hnd
  · exact hTH 37 _ ρ2 σ2 H locs ls st 213 "no such ones" 5 (by decide +kernel) rfl (by decide +kernel) (show decode prog_1_method_37_code 37 = .ok (.new 211, 3) by decide +kernel) (show decode prog_1_method_37_code 40 = .ok (.dup, 1) by decide +kernel) (Or.inl ⟨(show decode prog_1_method_37_code 41 = .ok (.ldc 213, 2) by decide +kernel), (show decode prog_1_method_37_code 43 = .ok (.invokespecial 215, 3) by decide +kernel), (show decode prog_1_method_37_code 46 = .ok (.athrow, 1) by decide +kernel)⟩) hG
  exact absurd hnd List.not_mem_nil
/-- NameNotes.bolder_5 -/
def nxd_bolder_5 : ab_CN := ([(2, 0, 0), (0, 1, 0), (0, 2, 0), (0, 3, 0), (0, 4, 0), (0, 5, 0)], [(0, 0), ((-2147483648), 2147483647), ((-2147483648), 2147483647), (4, 4), ((-2147483648), 2147483647), ((-2147483648), 2147483647)], [], [], [([(1, 0, 1)], [(0, 0), (2, 2), (2, 2), (4, 4), (9, 9), (1, 1)], [], [], [(90, 1000000), (91, 1000000)]),
    ([(1, 0, 1)], [(0, 0), (2, 2), (2, 2), (4, 4), (9, 9), (0, 0)], [], [], [(90, 1000000), (91, 1000000)]),
    ([(1, 0, 9)], [(0, 0), (2, 2), (2, 2), (4, 4), (8, 8), (1, 1)], [], [], [(90, 1000000), (91, 1000000)]),
    ([(1, 0, 8)], [(0, 0), (2, 2), (2, 2), (4, 4), (8, 8), (0, 0)], [], [], [(90, 1000000), (91, 1000000)]),
    ([(1, 0, 9)], [(0, 0), (2, 2), (2, 2), (4, 4), (7, 7), (1, 1)], [], [], [(90, 1000000), (91, 1000000)]),
    ([(1, 0, 7)], [(0, 0), (2, 2), (2, 2), (4, 4), (7, 7), (0, 0)], [], [], [(90, 1000000), (91, 1000000)]),
    ([(1, 0, 3)], [(0, 0), (2, 2), (2, 2), (4, 4), (6, 6), (1, 1)], [], [], [(90, 1000000), (91, 1000000)]),
    ([(1, 0, 2)], [(0, 0), (2, 2), (2, 2), (4, 4), (6, 6), (0, 0)], [], [], [(90, 1000000), (91, 1000000)]),
    ([(1, 0, 9)], [(0, 0), (2, 2), (2, 2), (4, 4), (5, 5), (1, 1)], [], [], [(90, 1000000), (91, 1000000)]),
    ([(1, 0, 5)], [(0, 0), (2, 2), (2, 2), (4, 4), (5, 5), (0, 0)], [], [], [(90, 1000000), (91, 1000000)]),
    ([(1, 0, 9)], [(0, 0), (2, 2), (2, 2), (4, 4), (4, 4), (1, 1)], [], [], [(90, 1000000), (91, 1000000)]),
    ([(1, 0, 4)], [(0, 0), (2, 2), (2, 2), (4, 4), (4, 4), (0, 0)], [], [], [(90, 1000000), (91, 1000000)]),
    ([(1, 0, 9)], [(0, 0), (2, 2), (2, 2), (4, 4), (3, 3), (1, 1)], [], [], [(90, 1000000), (91, 1000000)]),
    ([(1, 0, 4)], [(0, 0), (2, 2), (2, 2), (4, 4), (3, 3), (0, 0)], [], [], [(90, 1000000), (91, 1000000)]),
    ([(1, 0, 9)], [(0, 0), (2, 2), (2, 2), (4, 4), (2, 2), (1, 1)], [], [], [(90, 1000000), (91, 1000000)]),
    ([(1, 0, 4)], [(0, 0), (2, 2), (2, 2), (4, 4), (2, 2), (0, 0)], [], [], [(90, 1000000), (91, 1000000)]),
    ([(1, 0, 9)], [(0, 0), (2, 2), (2, 2), (4, 4), (1, 1), (1, 1)], [], [], [(90, 1000000), (91, 1000000)]),
    ([(1, 0, 4)], [(0, 0), (2, 2), (2, 2), (4, 4), (1, 1), (0, 0)], [], [], [(90, 1000000), (91, 1000000)]),
    ([(1, 0, 9)], [(0, 0), (2, 2), (2, 2), (4, 4), (0, 0), (1, 1)], [], [], [(90, 1000000), (91, 1000000)]),
    ([(1, 0, 4)], [(0, 0), (2, 2), (2, 2), (4, 4), (0, 0), (0, 0)], [], [], [(90, 1000000), (91, 1000000)]),
    ([(1, 0, 1)], [(0, 0), (2, 2), (1, 1), (4, 4), (9, 9), (1, 1)], [], [], [(90, 1000000), (91, 1000000)]),
    ([(1, 0, 1)], [(0, 0), (2, 2), (1, 1), (4, 4), (9, 9), (0, 0)], [], [], [(90, 1000000), (91, 1000000)]),
    ([(1, 0, 81)], [(0, 0), (2, 2), (1, 1), (4, 4), (8, 8), (1, 1)], [], [], [(90, 1000000), (91, 1000000)]),
    ([(1, 0, 76)], [(0, 0), (2, 2), (1, 1), (4, 4), (8, 8), (0, 0)], [], [], [(90, 1000000), (91, 1000000)]),
    ([(1, 0, 81)], [(0, 0), (2, 2), (1, 1), (4, 4), (7, 7), (1, 1)], [], [], [(90, 1000000), (91, 1000000)]),
    ([(1, 0, 71)], [(0, 0), (2, 2), (1, 1), (4, 4), (7, 7), (0, 0)], [], [], [(90, 1000000), (91, 1000000)]),
    ([(1, 0, 27)], [(0, 0), (2, 2), (1, 1), (4, 4), (6, 6), (1, 1)], [], [], [(90, 1000000), (91, 1000000)]),
    ([(1, 0, 22)], [(0, 0), (2, 2), (1, 1), (4, 4), (6, 6), (0, 0)], [], [], [(90, 1000000), (91, 1000000)]),
    ([(1, 0, 81)], [(0, 0), (2, 2), (1, 1), (4, 4), (5, 5), (1, 1)], [], [], [(90, 1000000), (91, 1000000)]),
    ([(1, 0, 61)], [(0, 0), (2, 2), (1, 1), (4, 4), (5, 5), (0, 0)], [], [], [(90, 1000000), (91, 1000000)]),
    ([(1, 0, 81)], [(0, 0), (2, 2), (1, 1), (4, 4), (4, 4), (1, 1)], [], [], [(90, 1000000), (91, 1000000)]),
    ([(1, 0, 56)], [(0, 0), (2, 2), (1, 1), (4, 4), (4, 4), (0, 0)], [], [], [(90, 1000000), (91, 1000000)]),
    ([(1, 0, 81)], [(0, 0), (2, 2), (1, 1), (4, 4), (3, 3), (1, 1)], [], [], [(90, 1000000), (91, 1000000)]),
    ([(1, 0, 56)], [(0, 0), (2, 2), (1, 1), (4, 4), (3, 3), (0, 0)], [], [], [(90, 1000000), (91, 1000000)]),
    ([(1, 0, 81)], [(0, 0), (2, 2), (1, 1), (4, 4), (2, 2), (1, 1)], [], [], [(90, 1000000), (91, 1000000)]),
    ([(1, 0, 56)], [(0, 0), (2, 2), (1, 1), (4, 4), (2, 2), (0, 0)], [], [], [(90, 1000000), (91, 1000000)]),
    ([(1, 0, 81)], [(0, 0), (2, 2), (1, 1), (4, 4), (1, 1), (1, 1)], [], [], [(90, 1000000), (91, 1000000)]),
    ([(1, 0, 56)], [(0, 0), (2, 2), (1, 1), (4, 4), (1, 1), (0, 0)], [], [], [(90, 1000000), (91, 1000000)]),
    ([(1, 0, 81)], [(0, 0), (2, 2), (1, 1), (4, 4), (0, 0), (1, 1)], [], [], [(90, 1000000), (91, 1000000)]),
    ([(1, 0, 56)], [(0, 0), (2, 2), (1, 1), (4, 4), (0, 0), (0, 0)], [], [], [(90, 1000000), (91, 1000000)]),
    ([(1, 0, 1)], [(0, 0), (2, 2), (0, 0), (4, 4), (9, 9), (1, 1)], [], [], [(90, 1000000), (91, 1000000)]),
    ([(1, 0, 1)], [(0, 0), (2, 2), (0, 0), (4, 4), (9, 9), (0, 0)], [], [], [(90, 1000000), (91, 1000000)]),
    ([(1, 0, 81)], [(0, 0), (2, 2), (0, 0), (4, 4), (8, 8), (1, 1)], [], [], [(90, 1000000), (91, 1000000)]),
    ([(1, 0, 80)], [(0, 0), (2, 2), (0, 0), (4, 4), (8, 8), (0, 0)], [], [], [(90, 1000000), (91, 1000000)]),
    ([(1, 0, 81)], [(0, 0), (2, 2), (0, 0), (4, 4), (7, 7), (1, 1)], [], [], [(90, 1000000), (91, 1000000)]),
    ([(1, 0, 77)], [(0, 0), (2, 2), (0, 0), (4, 4), (7, 7), (0, 0)], [], [], [(90, 1000000), (91, 1000000)]),
    ([(1, 0, 243)], [(0, 0), (2, 2), (0, 0), (4, 4), (6, 6), (1, 1)], [], [], [(90, 1000000), (91, 1000000)]),
    ([(1, 0, 218)], [(0, 0), (2, 2), (0, 0), (4, 4), (6, 6), (0, 0)], [], [], [(90, 1000000), (91, 1000000)]),
    ([(1, 0, 729)], [(0, 0), (2, 2), (0, 0), (4, 4), (5, 5), (1, 1)], [], [], [(90, 1000000), (91, 1000000)]),
    ([(1, 0, 629)], [(0, 0), (2, 2), (0, 0), (4, 4), (5, 5), (0, 0)], [], [], [(90, 1000000), (91, 1000000)]),
    ([(1, 0, 729)], [(0, 0), (2, 2), (0, 0), (4, 4), (4, 4), (1, 1)], [], [], [(90, 1000000), (91, 1000000)]),
    ([(1, 0, 604)], [(0, 0), (2, 2), (0, 0), (4, 4), (4, 4), (0, 0)], [], [], [(90, 1000000), (91, 1000000)]),
    ([(1, 0, 729)], [(0, 0), (2, 2), (0, 0), (4, 4), (3, 3), (1, 1)], [], [], [(90, 1000000), (91, 1000000)]),
    ([(1, 0, 604)], [(0, 0), (2, 2), (0, 0), (4, 4), (3, 3), (0, 0)], [], [], [(90, 1000000), (91, 1000000)]),
    ([(1, 0, 729)], [(0, 0), (2, 2), (0, 0), (4, 4), (2, 2), (1, 1)], [], [], [(90, 1000000), (91, 1000000)]),
    ([(1, 0, 604)], [(0, 0), (2, 2), (0, 0), (4, 4), (2, 2), (0, 0)], [], [], [(90, 1000000), (91, 1000000)]),
    ([(1, 0, 729)], [(0, 0), (2, 2), (0, 0), (4, 4), (1, 1), (1, 1)], [], [], [(90, 1000000), (91, 1000000)]),
    ([(1, 0, 604)], [(0, 0), (2, 2), (0, 0), (4, 4), (1, 1), (0, 0)], [], [], [(90, 1000000), (91, 1000000)]),
    ([(1, 0, 729)], [(0, 0), (2, 2), (0, 0), (4, 4), (0, 0), (1, 1)], [], [], [(90, 1000000), (91, 1000000)]),
    ([(1, 0, 604)], [(0, 0), (2, 2), (0, 0), (4, 4), (0, 0), (0, 0)], [], [], [(90, 1000000), (91, 1000000)]),
    ([(1, 0, 1)], [(0, 0), (1, 1), (2, 2), (4, 4), (9, 9), (1, 1)], [], [], [(90, 1000000), (91, 1000000)]),
    ([(1, 0, 1)], [(0, 0), (1, 1), (2, 2), (4, 4), (9, 9), (0, 0)], [], [], [(90, 1000000), (91, 1000000)]),
    ([(1, 0, 9)], [(0, 0), (1, 1), (2, 2), (4, 4), (8, 8), (1, 1)], [], [], [(90, 1000000), (91, 1000000)]),
    ([(1, 0, 8)], [(0, 0), (1, 1), (2, 2), (4, 4), (8, 8), (0, 0)], [], [], [(90, 1000000), (91, 1000000)]),
    ([(1, 0, 9)], [(0, 0), (1, 1), (2, 2), (4, 4), (7, 7), (1, 1)], [], [], [(90, 1000000), (91, 1000000)]),
    ([(1, 0, 7)], [(0, 0), (1, 1), (2, 2), (4, 4), (7, 7), (0, 0)], [], [], [(90, 1000000), (91, 1000000)]),
    ([(1, 0, 3)], [(0, 0), (1, 1), (2, 2), (4, 4), (6, 6), (1, 1)], [], [], [(90, 1000000), (91, 1000000)]),
    ([(1, 0, 2)], [(0, 0), (1, 1), (2, 2), (4, 4), (6, 6), (0, 0)], [], [], [(90, 1000000), (91, 1000000)]),
    ([(1, 0, 9)], [(0, 0), (1, 1), (2, 2), (4, 4), (5, 5), (1, 1)], [], [], [(90, 1000000), (91, 1000000)]),
    ([(1, 0, 5)], [(0, 0), (1, 1), (2, 2), (4, 4), (5, 5), (0, 0)], [], [], [(90, 1000000), (91, 1000000)]),
    ([(1, 0, 9)], [(0, 0), (1, 1), (2, 2), (4, 4), (4, 4), (1, 1)], [], [], [(90, 1000000), (91, 1000000)]),
    ([(1, 0, 4)], [(0, 0), (1, 1), (2, 2), (4, 4), (4, 4), (0, 0)], [], [], [(90, 1000000), (91, 1000000)]),
    ([(1, 0, 3)], [(0, 0), (1, 1), (2, 2), (4, 4), (3, 3), (1, 1)], [], [], [(90, 1000000), (91, 1000000)]),
    ([(1, 0, 1)], [(0, 0), (1, 1), (2, 2), (4, 4), (3, 3), (0, 0)], [], [], [(90, 1000000), (91, 1000000)]),
    ([(1, 0, 9)], [(0, 0), (1, 1), (2, 2), (4, 4), (2, 2), (1, 1)], [], [], [(90, 1000000), (91, 1000000)]),
    ([(1, 0, 2)], [(0, 0), (1, 1), (2, 2), (4, 4), (2, 2), (0, 0)], [], [], [(90, 1000000), (91, 1000000)]),
    ([(1, 0, 81)], [(0, 0), (1, 1), (2, 2), (4, 4), (1, 1), (1, 1)], [], [], [(90, 1000000), (91, 1000000)]),
    ([(1, 0, 16)], [(0, 0), (1, 1), (2, 2), (4, 4), (1, 1), (0, 0)], [], [], [(90, 1000000), (91, 1000000)]),
    ([(1, 0, 81)], [(0, 0), (1, 1), (2, 2), (4, 4), (0, 0), (1, 1)], [], [], [(90, 1000000), (91, 1000000)]),
    ([(1, 0, 16)], [(0, 0), (1, 1), (2, 2), (4, 4), (0, 0), (0, 0)], [], [], [(90, 1000000), (91, 1000000)]),
    ([(1, 0, 1)], [(0, 0), (1, 1), (1, 1), (4, 4), (9, 9), (1, 1)], [], [], [(90, 1000000), (91, 1000000)]),
    ([(1, 0, 1)], [(0, 0), (1, 1), (1, 1), (4, 4), (9, 9), (0, 0)], [], [], [(90, 1000000), (91, 1000000)]),
    ([(1, 0, 729)], [(0, 0), (1, 1), (1, 1), (4, 4), (8, 8), (1, 1)], [], [], [(90, 1000000), (91, 1000000)]),
    ([(1, 0, 664)], [(0, 0), (1, 1), (1, 1), (4, 4), (8, 8), (0, 0)], [], [], [(90, 1000000), (91, 1000000)]),
    ([(1, 0, 729)], [(0, 0), (1, 1), (1, 1), (4, 4), (7, 7), (1, 1)], [], [], [(90, 1000000), (91, 1000000)]),
    ([(1, 0, 599)], [(0, 0), (1, 1), (1, 1), (4, 4), (7, 7), (0, 0)], [], [], [(90, 1000000), (91, 1000000)]),
    ([(1, 0, 243)], [(0, 0), (1, 1), (1, 1), (4, 4), (6, 6), (1, 1)], [], [], [(90, 1000000), (91, 1000000)]),
    ([(1, 0, 178)], [(0, 0), (1, 1), (1, 1), (4, 4), (6, 6), (0, 0)], [], [], [(90, 1000000), (91, 1000000)]),
    ([(1, 0, 729)], [(0, 0), (1, 1), (1, 1), (4, 4), (5, 5), (1, 1)], [], [], [(90, 1000000), (91, 1000000)]),
    ([(1, 0, 469)], [(0, 0), (1, 1), (1, 1), (4, 4), (5, 5), (0, 0)], [], [], [(90, 1000000), (91, 1000000)]),
    ([(1, 0, 729)], [(0, 0), (1, 1), (1, 1), (4, 4), (4, 4), (1, 1)], [], [], [(90, 1000000), (91, 1000000)]),
    ([(1, 0, 404)], [(0, 0), (1, 1), (1, 1), (4, 4), (4, 4), (0, 0)], [], [], [(90, 1000000), (91, 1000000)]),
    ([(1, 0, 729)], [(0, 0), (1, 1), (1, 1), (4, 4), (3, 3), (1, 1)], [], [], [(90, 1000000), (91, 1000000)]),
    ([(1, 0, 359)], [(0, 0), (1, 1), (1, 1), (4, 4), (3, 3), (0, 0)], [], [], [(90, 1000000), (91, 1000000)]),
    ([(1, 0, 729)], [(0, 0), (1, 1), (1, 1), (4, 4), (2, 2), (1, 1)], [], [], [(90, 1000000), (91, 1000000)]),
    ([(1, 0, 314)], [(0, 0), (1, 1), (1, 1), (4, 4), (2, 2), (0, 0)], [], [], [(90, 1000000), (91, 1000000)]),
    ([(1, 0, 729)], [(0, 0), (1, 1), (1, 1), (4, 4), (1, 1), (1, 1)], [], [], [(90, 1000000), (91, 1000000)]),
    ([(1, 0, 304)], [(0, 0), (1, 1), (1, 1), (4, 4), (1, 1), (0, 0)], [], [], [(90, 1000000), (91, 1000000)]),
    ([(1, 0, 729)], [(0, 0), (1, 1), (1, 1), (4, 4), (0, 0), (1, 1)], [], [], [(90, 1000000), (91, 1000000)]),
    ([(1, 0, 304)], [(0, 0), (1, 1), (1, 1), (4, 4), (0, 0), (0, 0)], [], [], [(90, 1000000), (91, 1000000)]),
    ([(1, 0, 1)], [(0, 0), (1, 1), (0, 0), (4, 4), (9, 9), (1, 1)], [], [], [(90, 1000000), (91, 1000000)]),
    ([(1, 0, 1)], [(0, 0), (1, 1), (0, 0), (4, 4), (9, 9), (0, 0)], [], [], [(90, 1000000), (91, 1000000)]),
    ([(1, 0, 81)], [(0, 0), (1, 1), (0, 0), (4, 4), (8, 8), (1, 1)], [], [], [(90, 1000000), (91, 1000000)]),
    ([(1, 0, 80)], [(0, 0), (1, 1), (0, 0), (4, 4), (8, 8), (0, 0)], [], [], [(90, 1000000), (91, 1000000)]),
    ([(1, 0, 81)], [(0, 0), (1, 1), (0, 0), (4, 4), (7, 7), (1, 1)], [], [], [(90, 1000000), (91, 1000000)]),
    ([(1, 0, 77)], [(0, 0), (1, 1), (0, 0), (4, 4), (7, 7), (0, 0)], [], [], [(90, 1000000), (91, 1000000)]),
    ([(1, 0, 9)], [(0, 0), (1, 1), (0, 0), (4, 4), (6, 6), (1, 1)], [], [], [(90, 1000000), (91, 1000000)]),
    ([(1, 0, 8)], [(0, 0), (1, 1), (0, 0), (4, 4), (6, 6), (0, 0)], [], [], [(90, 1000000), (91, 1000000)]),
    ([(1, 0, 81)], [(0, 0), (1, 1), (0, 0), (4, 4), (5, 5), (1, 1)], [], [], [(90, 1000000), (91, 1000000)]),
    ([(1, 0, 65)], [(0, 0), (1, 1), (0, 0), (4, 4), (5, 5), (0, 0)], [], [], [(90, 1000000), (91, 1000000)]),
    ([(1, 0, 81)], [(0, 0), (1, 1), (0, 0), (4, 4), (4, 4), (1, 1)], [], [], [(90, 1000000), (91, 1000000)]),
    ([(1, 0, 56)], [(0, 0), (1, 1), (0, 0), (4, 4), (4, 4), (0, 0)], [], [], [(90, 1000000), (91, 1000000)]),
    ([(1, 0, 6561)], [(0, 0), (1, 1), (0, 0), (4, 4), (3, 3), (1, 1)], [], [], [(90, 1000000), (91, 1000000)]),
    ([(1, 0, 4211)], [(0, 0), (1, 1), (0, 0), (4, 4), (3, 3), (0, 0)], [], [], [(90, 1000000), (91, 1000000)]),
    ([(1, 0, 6561)], [(0, 0), (1, 1), (0, 0), (4, 4), (2, 2), (1, 1)], [], [], [(90, 1000000), (91, 1000000)]),
    ([(1, 0, 3986)], [(0, 0), (1, 1), (0, 0), (4, 4), (2, 2), (0, 0)], [], [], [(90, 1000000), (91, 1000000)]),
    ([(1, 0, 2187)], [(0, 0), (1, 1), (0, 0), (4, 4), (1, 1), (1, 1)], [], [], [(90, 1000000), (91, 1000000)]),
    ([(1, 0, 1312)], [(0, 0), (1, 1), (0, 0), (4, 4), (1, 1), (0, 0)], [], [], [(90, 1000000), (91, 1000000)]),
    ([(1, 0, 2187)], [(0, 0), (1, 1), (0, 0), (4, 4), (0, 0), (1, 1)], [], [], [(90, 1000000), (91, 1000000)]),
    ([(1, 0, 1312)], [(0, 0), (1, 1), (0, 0), (4, 4), (0, 0), (0, 0)], [], [], [(90, 1000000), (91, 1000000)]),
    ([(1, 0, 1)], [(0, 0), (0, 0), (2, 2), (4, 4), (9, 9), (1, 1)], [], [], [(90, 1000000), (91, 1000000)]),
    ([(1, 0, 1)], [(0, 0), (0, 0), (2, 2), (4, 4), (9, 9), (0, 0)], [], [], [(90, 1000000), (91, 1000000)]),
    ([(1, 0, 81)], [(0, 0), (0, 0), (2, 2), (4, 4), (8, 8), (1, 1)], [], [], [(90, 1000000), (91, 1000000)]),
    ([(1, 0, 64)], [(0, 0), (0, 0), (2, 2), (4, 4), (8, 8), (0, 0)], [], [], [(90, 1000000), (91, 1000000)]),
    ([(1, 0, 81)], [(0, 0), (0, 0), (2, 2), (4, 4), (7, 7), (1, 1)], [], [], [(90, 1000000), (91, 1000000)]),
    ([(1, 0, 49)], [(0, 0), (0, 0), (2, 2), (4, 4), (7, 7), (0, 0)], [], [], [(90, 1000000), (91, 1000000)]),
    ([(1, 0, 9)], [(0, 0), (0, 0), (2, 2), (4, 4), (6, 6), (1, 1)], [], [], [(90, 1000000), (91, 1000000)]),
    ([(1, 0, 4)], [(0, 0), (0, 0), (2, 2), (4, 4), (6, 6), (0, 0)], [], [], [(90, 1000000), (91, 1000000)]),
    ([(1, 0, 81)], [(0, 0), (0, 0), (2, 2), (4, 4), (5, 5), (1, 1)], [], [], [(90, 1000000), (91, 1000000)]),
    ([(1, 0, 25)], [(0, 0), (0, 0), (2, 2), (4, 4), (5, 5), (0, 0)], [], [], [(90, 1000000), (91, 1000000)]),
    ([(1, 0, 81)], [(0, 0), (0, 0), (2, 2), (4, 4), (4, 4), (1, 1)], [], [], [(90, 1000000), (91, 1000000)]),
    ([(1, 0, 16)], [(0, 0), (0, 0), (2, 2), (4, 4), (4, 4), (0, 0)], [], [], [(90, 1000000), (91, 1000000)]),
    ([(1, 0, 27)], [(0, 0), (0, 0), (2, 2), (4, 4), (3, 3), (1, 1)], [], [], [(90, 1000000), (91, 1000000)]),
    ([(1, 0, 4)], [(0, 0), (0, 0), (2, 2), (4, 4), (3, 3), (0, 0)], [], [], [(90, 1000000), (91, 1000000)]),
    ([(1, 0, 81)], [(0, 0), (0, 0), (2, 2), (4, 4), (2, 2), (1, 1)], [], [], [(90, 1000000), (91, 1000000)]),
    ([(1, 0, 8)], [(0, 0), (0, 0), (2, 2), (4, 4), (2, 2), (0, 0)], [], [], [(90, 1000000), (91, 1000000)]),
    ([(1, 0, 729)], [(0, 0), (0, 0), (2, 2), (4, 4), (1, 1), (1, 1)], [], [], [(90, 1000000), (91, 1000000)]),
    ([(1, 0, 64)], [(0, 0), (0, 0), (2, 2), (4, 4), (1, 1), (0, 0)], [], [], [(90, 1000000), (91, 1000000)]),
    ([(1, 0, 729)], [(0, 0), (0, 0), (2, 2), (4, 4), (0, 0), (1, 1)], [], [], [(90, 1000000), (91, 1000000)]),
    ([(1, 0, 64)], [(0, 0), (0, 0), (2, 2), (4, 4), (0, 0), (0, 0)], [], [], [(90, 1000000), (91, 1000000)]),
    ([(1, 0, 1)], [(0, 0), (0, 0), (1, 1), (4, 4), (9, 9), (1, 1)], [], [], [(90, 1000000), (91, 1000000)]),
    ([(1, 0, 1)], [(0, 0), (0, 0), (1, 1), (4, 4), (9, 9), (0, 0)], [], [], [(90, 1000000), (91, 1000000)]),
    ([(1, 0, 6561)], [(0, 0), (0, 0), (1, 1), (4, 4), (8, 8), (1, 1)], [], [], [(90, 1000000), (91, 1000000)]),
    ([(1, 0, 5536)], [(0, 0), (0, 0), (1, 1), (4, 4), (8, 8), (0, 0)], [], [], [(90, 1000000), (91, 1000000)]),
    ([(1, 0, 6561)], [(0, 0), (0, 0), (1, 1), (4, 4), (7, 7), (1, 1)], [], [], [(90, 1000000), (91, 1000000)]),
    ([(1, 0, 4601)], [(0, 0), (0, 0), (1, 1), (4, 4), (7, 7), (0, 0)], [], [], [(90, 1000000), (91, 1000000)]),
    ([(1, 0, 2187)], [(0, 0), (0, 0), (1, 1), (4, 4), (6, 6), (1, 1)], [], [], [(90, 1000000), (91, 1000000)]),
    ([(1, 0, 1252)], [(0, 0), (0, 0), (1, 1), (4, 4), (6, 6), (0, 0)], [], [], [(90, 1000000), (91, 1000000)]),
    ([(1, 0, 6561)], [(0, 0), (0, 0), (1, 1), (4, 4), (5, 5), (1, 1)], [], [], [(90, 1000000), (91, 1000000)]),
    ([(1, 0, 3001)], [(0, 0), (0, 0), (1, 1), (4, 4), (5, 5), (0, 0)], [], [], [(90, 1000000), (91, 1000000)]),
    ([(1, 0, 6561)], [(0, 0), (0, 0), (1, 1), (4, 4), (4, 4), (1, 1)], [], [], [(90, 1000000), (91, 1000000)]),
    ([(1, 0, 2336)], [(0, 0), (0, 0), (1, 1), (4, 4), (4, 4), (0, 0)], [], [], [(90, 1000000), (91, 1000000)]),
    ([(1, 0, 6561)], [(0, 0), (0, 0), (1, 1), (4, 4), (3, 3), (1, 1)], [], [], [(90, 1000000), (91, 1000000)]),
    ([(1, 0, 1976)], [(0, 0), (0, 0), (1, 1), (4, 4), (3, 3), (0, 0)], [], [], [(90, 1000000), (91, 1000000)]),
    ([(1, 0, 6561)], [(0, 0), (0, 0), (1, 1), (4, 4), (2, 2), (1, 1)], [], [], [(90, 1000000), (91, 1000000)]),
    ([(1, 0, 1616)], [(0, 0), (0, 0), (1, 1), (4, 4), (2, 2), (0, 0)], [], [], [(90, 1000000), (91, 1000000)]),
    ([(1, 0, 2187)], [(0, 0), (0, 0), (1, 1), (4, 4), (1, 1), (1, 1)], [], [], [(90, 1000000), (91, 1000000)]),
    ([(1, 0, 512)], [(0, 0), (0, 0), (1, 1), (4, 4), (1, 1), (0, 0)], [], [], [(90, 1000000), (91, 1000000)]),
    ([(1, 0, 2187)], [(0, 0), (0, 0), (1, 1), (4, 4), (0, 0), (1, 1)], [], [], [(90, 1000000), (91, 1000000)]),
    ([(1, 0, 512)], [(0, 0), (0, 0), (1, 1), (4, 4), (0, 0), (0, 0)], [], [], [(90, 1000000), (91, 1000000)]),
    ([(1, 0, 1)], [(0, 0), (0, 0), (0, 0), (4, 4), (9, 9), (1, 1)], [], [], [(90, 1000000), (91, 1000000)]),
    ([(1, 0, 1)], [(0, 0), (0, 0), (0, 0), (4, 4), (9, 9), (0, 0)], [], [], [(90, 1000000), (91, 1000000)]),
    ([(1, 0, 729)], [(0, 0), (0, 0), (0, 0), (4, 4), (8, 8), (1, 1)], [], [], [(90, 1000000), (91, 1000000)]),
    ([(1, 0, 704)], [(0, 0), (0, 0), (0, 0), (4, 4), (8, 8), (0, 0)], [], [], [(90, 1000000), (91, 1000000)]),
    ([(1, 0, 729)], [(0, 0), (0, 0), (0, 0), (4, 4), (7, 7), (1, 1)], [], [], [(90, 1000000), (91, 1000000)]),
    ([(1, 0, 637)], [(0, 0), (0, 0), (0, 0), (4, 4), (7, 7), (0, 0)], [], [], [(90, 1000000), (91, 1000000)]),
    ([(1, 0, 729)], [(0, 0), (0, 0), (0, 0), (4, 4), (6, 6), (1, 1)], [], [], [(90, 1000000), (91, 1000000)]),
    ([(1, 0, 544)], [(0, 0), (0, 0), (0, 0), (4, 4), (6, 6), (0, 0)], [], [], [(90, 1000000), (91, 1000000)]),
    ([(1, 0, 6561)], [(0, 0), (0, 0), (0, 0), (4, 4), (5, 5), (1, 1)], [], [], [(90, 1000000), (91, 1000000)]),
    ([(1, 0, 4045)], [(0, 0), (0, 0), (0, 0), (4, 4), (5, 5), (0, 0)], [], [], [(90, 1000000), (91, 1000000)]),
    ([(1, 0, 59049)], [(0, 0), (0, 0), (0, 0), (4, 4), (4, 4), (1, 1)], [], [], [(90, 1000000), (91, 1000000)]),
    ([(1, 0, 29824)], [(0, 0), (0, 0), (0, 0), (4, 4), (4, 4), (0, 0)], [], [], [(90, 1000000), (91, 1000000)]),
    ([(1, 0, 19683)], [(0, 0), (0, 0), (0, 0), (4, 4), (3, 3), (1, 1)], [], [], [(90, 1000000), (91, 1000000)]),
    ([(1, 0, 8908)], [(0, 0), (0, 0), (0, 0), (4, 4), (3, 3), (0, 0)], [], [], [(90, 1000000), (91, 1000000)]),
    ([(1, 0, 19683)], [(0, 0), (0, 0), (0, 0), (4, 4), (2, 2), (1, 1)], [], [], [(90, 1000000), (91, 1000000)]),
    ([(1, 0, 8008)], [(0, 0), (0, 0), (0, 0), (4, 4), (2, 2), (0, 0)], [], [], [(90, 1000000), (91, 1000000)]),
    ([(1, 0, 19683)], [(0, 0), (0, 0), (0, 0), (4, 4), (1, 1), (1, 1)], [], [], [(90, 1000000), (91, 1000000)]),
    ([(1, 0, 7808)], [(0, 0), (0, 0), (0, 0), (4, 4), (1, 1), (0, 0)], [], [], [(90, 1000000), (91, 1000000)]),
    ([(1, 0, 19683)], [(0, 0), (0, 0), (0, 0), (4, 4), (0, 0), (1, 1)], [], [], [(90, 1000000), (91, 1000000)]),
    ([(1, 0, 7808)], [(0, 0), (0, 0), (0, 0), (4, 4), (0, 0), (0, 0)], [], [], [(90, 1000000), (91, 1000000)])])
def nxo_bolder_5 : List ab_OU := [([], [(0, 0), ((-2147483648), (-1)), ((-2147483648), 2147483647), (4, 4), ((-2147483648), 2147483647), ((-2147483648), 2147483647)], [], [], []),
    ([], [(0, 0), (3, 2147483647), ((-2147483648), 2147483647), (4, 4), ((-2147483648), 2147483647), ((-2147483648), 2147483647)], [], [], []),
    ([], [(0, 0), (0, 2), ((-2147483648), (-1)), (4, 4), ((-2147483648), 2147483647), ((-2147483648), 2147483647)], [], [], []),
    ([], [(0, 0), (0, 2), (3, 2147483647), (4, 4), ((-2147483648), 2147483647), ((-2147483648), 2147483647)], [], [], []),
    ([], [(0, 0), (0, 2), (0, 2), (4, 4), ((-2147483648), (-1)), ((-2147483648), 2147483647)], [], [], []),
    ([], [(0, 0), (0, 2), (0, 2), (4, 4), (10, 2147483647), ((-2147483648), 2147483647)], [], [], []),
    ([], [(0, 0), (0, 2), (0, 2), (4, 4), (0, 9), ((-2147483648), (-1))], [], [], []),
    ([], [(0, 0), (0, 2), (0, 2), (4, 4), (0, 9), (2, 2147483647)], [], [], [])]
def nxe_bolder_5_0 : ab_ND := (37, ([(0, (2, 0, 0)), (1, (0, 1, 0)), (2, (0, 2, 0)), (3, (0, 3, 0)), (4, (0, 4, 0)), (5, (0, 5, 0))], [], [(0, 0), ((-2147483648), (-1)), ((-2147483648), 2147483647), (4, 4), ((-2147483648), 2147483647), ((-2147483648), 2147483647)], [], [], []), ((0, [], []), (0, [], []), (0, [], [])))
def nxe_bolder_5_1 : ab_ND := (37, ([(0, (2, 0, 0)), (1, (0, 1, 0)), (2, (0, 2, 0)), (3, (0, 3, 0)), (4, (0, 4, 0)), (5, (0, 5, 0))], [], [(0, 0), (3, 2147483647), ((-2147483648), 2147483647), (4, 4), ((-2147483648), 2147483647), ((-2147483648), 2147483647)], [], [], []), ((0, [], []), (0, [], []), (0, [], [])))
def nxe_bolder_5_2 : ab_ND := (37, ([(0, (2, 0, 0)), (1, (0, 1, 0)), (2, (0, 2, 0)), (3, (0, 3, 0)), (4, (0, 4, 0)), (5, (0, 5, 0))], [], [(0, 0), (0, 2), ((-2147483648), (-1)), (4, 4), ((-2147483648), 2147483647), ((-2147483648), 2147483647)], [], [], []), ((0, [], []), (0, [], []), (0, [], [])))
def nxe_bolder_5_3 : ab_ND := (37, ([(0, (2, 0, 0)), (1, (0, 1, 0)), (2, (0, 2, 0)), (3, (0, 3, 0)), (4, (0, 4, 0)), (5, (0, 5, 0))], [], [(0, 0), (0, 2), (3, 2147483647), (4, 4), ((-2147483648), 2147483647), ((-2147483648), 2147483647)], [], [], []), ((0, [], []), (0, [], []), (0, [], [])))
def nxe_bolder_5_4 : ab_ND := (37, ([(0, (2, 0, 0)), (1, (0, 1, 0)), (2, (0, 2, 0)), (3, (0, 3, 0)), (4, (0, 4, 0)), (5, (0, 5, 0))], [], [(0, 0), (0, 2), (0, 2), (4, 4), ((-2147483648), (-1)), ((-2147483648), 2147483647)], [], [], []), ((0, [], []), (0, [], []), (0, [], [])))
def nxe_bolder_5_5 : ab_ND := (37, ([(0, (2, 0, 0)), (1, (0, 1, 0)), (2, (0, 2, 0)), (3, (0, 3, 0)), (4, (0, 4, 0)), (5, (0, 5, 0))], [], [(0, 0), (0, 2), (0, 2), (4, 4), (10, 2147483647), ((-2147483648), 2147483647)], [], [], []), ((0, [], []), (0, [], []), (0, [], [])))
def nxe_bolder_5_6 : ab_ND := (37, ([(0, (2, 0, 0)), (1, (0, 1, 0)), (2, (0, 2, 0)), (3, (0, 3, 0)), (4, (0, 4, 0)), (5, (0, 5, 0))], [], [(0, 0), (0, 2), (0, 2), (4, 4), (0, 9), ((-2147483648), (-1))], [], [], []), ((0, [], []), (0, [], []), (0, [], [])))
def nxe_bolder_5_7 : ab_ND := (37, ([(0, (2, 0, 0)), (1, (0, 1, 0)), (2, (0, 2, 0)), (3, (0, 3, 0)), (4, (0, 4, 0)), (5, (0, 5, 0))], [], [(0, 0), (0, 2), (0, 2), (4, 4), (0, 9), (2, 2147483647)], [], [], []), ((0, [], []), (0, [], []), (0, [], [])))
def nxm_bolder_5_0 : ab_ND := (0, (ab_en0 0 nxd_bolder_5.1, [], nxd_bolder_5.2.1, nxd_bolder_5.2.2.1, nxd_bolder_5.2.2.2.1, []), ((9000000000000000000000, [], []), (0, [], []), (0, [], [])))
def nxm_bolder_5_1 : ab_ND := (48, ([(0, (2, 0, 0)), (1, (0, 0, 2)), (2, (0, 0, 2)), (3, (0, 0, 4)), (4, (0, 4, 0)), (5, (0, 5, 0))], [(2, 0, 0)], [(0, 0), (2, 2), (2, 2), (4, 4), (0, 9), (0, 1)], [], [], []), ((0, [], []), (0, [], []), (0, [], [])))
def nxm_bolder_5_2 : ab_ND := (48, ([(0, (2, 0, 0)), (1, (0, 0, 2)), (2, (0, 0, 1)), (3, (0, 0, 4)), (4, (0, 4, 0)), (5, (0, 5, 0))], [(2, 0, 0)], [(0, 0), (2, 2), (1, 1), (4, 4), (0, 9), (0, 1)], [], [], []), ((1000000000000000000000, [], []), (0, [], []), (0, [], [])))
def nxm_bolder_5_3 : ab_ND := (48, ([(0, (2, 0, 0)), (1, (0, 0, 2)), (2, (0, 0, 0)), (3, (0, 0, 4)), (4, (0, 4, 0)), (5, (0, 5, 0))], [(2, 0, 0)], [(0, 0), (2, 2), (0, 0), (4, 4), (0, 9), (0, 1)], [], [], []), ((2000000000000000000000, [], []), (0, [], []), (0, [], [])))
def nxm_bolder_5_4 : ab_ND := (48, ([(0, (2, 0, 0)), (1, (0, 0, 1)), (2, (0, 0, 2)), (3, (0, 0, 4)), (4, (0, 4, 0)), (5, (0, 5, 0))], [(2, 0, 0)], [(0, 0), (1, 1), (2, 2), (4, 4), (0, 9), (0, 1)], [], [], []), ((3000000000000000000000, [], []), (0, [], []), (0, [], [])))
def nxm_bolder_5_5 : ab_ND := (48, ([(0, (2, 0, 0)), (1, (0, 0, 1)), (2, (0, 0, 1)), (3, (0, 0, 4)), (4, (0, 4, 0)), (5, (0, 5, 0))], [(2, 0, 0)], [(0, 0), (1, 1), (1, 1), (4, 4), (0, 9), (0, 1)], [], [], []), ((4000000000000000000000, [], []), (0, [], []), (0, [], [])))
def nxm_bolder_5_6 : ab_ND := (48, ([(0, (2, 0, 0)), (1, (0, 0, 1)), (2, (0, 0, 0)), (3, (0, 0, 4)), (4, (0, 4, 0)), (5, (0, 5, 0))], [(2, 0, 0)], [(0, 0), (1, 1), (0, 0), (4, 4), (0, 9), (0, 1)], [], [], []), ((5000000000000000000000, [], []), (0, [], []), (0, [], [])))
def nxm_bolder_5_7 : ab_ND := (48, ([(0, (2, 0, 0)), (1, (0, 0, 0)), (2, (0, 0, 2)), (3, (0, 0, 4)), (4, (0, 4, 0)), (5, (0, 5, 0))], [(2, 0, 0)], [(0, 0), (0, 0), (2, 2), (4, 4), (0, 9), (0, 1)], [], [], []), ((6000000000000000000000, [], []), (0, [], []), (0, [], [])))
def nxm_bolder_5_8 : ab_ND := (48, ([(0, (2, 0, 0)), (1, (0, 0, 0)), (2, (0, 0, 1)), (3, (0, 0, 4)), (4, (0, 4, 0)), (5, (0, 5, 0))], [(2, 0, 0)], [(0, 0), (0, 0), (1, 1), (4, 4), (0, 9), (0, 1)], [], [], []), ((7000000000000000000000, [], []), (0, [], []), (0, [], [])))
def nxm_bolder_5_9 : ab_ND := (48, ([(0, (2, 0, 0)), (1, (0, 0, 0)), (2, (0, 0, 0)), (3, (0, 0, 4)), (4, (0, 4, 0)), (5, (0, 5, 0))], [(2, 0, 0)], [(0, 0), (0, 0), (0, 0), (4, 4), (0, 9), (0, 1)], [], [], []), ((8000000000000000000000, [], []), (0, [], []), (0, [], [])))
def nxn_bolder_5 : List ab_ND := [nxm_bolder_5_0, nxm_bolder_5_1, nxm_bolder_5_2, nxm_bolder_5_3, nxm_bolder_5_4, nxm_bolder_5_5, nxm_bolder_5_6, nxm_bolder_5_7, nxm_bolder_5_8, nxm_bolder_5_9]
def nxk_bolder_5 : ab_KS := [(136, 0, le_736), (81, 0, le_737), (55, 0, le_738), (138, 1, le_747), (138, 1, le_753), (138, 1, le_762), (138, 1, le_766), (138, 1, le_768), (138, 1, le_776), (138, 1, le_780), (138, 1, le_782), (193, 0, le_786), (193, 0, le_787), (193, 0, le_789), (193, 0, le_790), (193, 0, le_792), (193, 0, le_793), (193, 0, le_795), (193, 0, le_796), (193, 0, le_798), (193, 0, le_799), (193, 0, le_801), (193, 0, le_802), (193, 0, le_804), (193, 0, le_805), (193, 0, le_807), (193, 0, le_808), (193, 0, le_815), (193, 0, le_816), (193, 0, le_817), (193, 0, le_818), (193, 0, le_819), (193, 0, le_820), (193, 0, le_821), (193, 0, le_822), (193, 0, le_827), (193, 0, le_828), (193, 0, le_829), (193, 0, le_830), (193, 0, le_831), (193, 0, le_832), (193, 0, le_833), (193, 0, le_834), (138, 1, le_840), (193, 0, le_841), (193, 0, le_842), (193, 0, le_843), (193, 0, le_844), (193, 0, le_849), (193, 0, le_850), (193, 0, le_1009), (193, 0, le_1010), (137, 2, le_1025), (137, 2, le_1026), (137, 2, le_1027), (137, 2, le_1028), (137, 2, le_1029), (137, 2, le_1030), (137, 2, le_1031), (137, 2, le_1032), (137, 2, le_1033), (137, 2, le_1034), (193, 0, le_1035), (193, 0, le_1036), (193, 0, le_1037), (193, 0, le_1038), (193, 0, le_1039), (193, 0, le_1040), (193, 0, le_1041), (193, 0, le_1042), (193, 0, le_1043), (193, 0, le_1044), (193, 0, le_1045), (193, 0, le_1046), (193, 0, le_1047), (193, 0, le_1048), (193, 0, le_1049), (193, 0, le_1050), (193, 0, le_1051), (193, 0, le_1052), (193, 0, le_1053), (193, 0, le_1054), (193, 0, le_1055), (193, 0, le_1056), (193, 0, le_1057), (193, 0, le_1058), (193, 0, le_1059), (193, 0, le_1060), (193, 0, le_1061), (193, 0, le_1062), (193, 0, le_1063), (193, 0, le_1064), (193, 0, le_1065), (193, 0, le_1066), (193, 0, le_1067), (193, 0, le_1068), (193, 0, le_1069), (193, 0, le_1070), (193, 0, le_1071), (193, 0, le_1072), (193, 0, le_1073), (193, 0, le_1074), (193, 0, le_1075), (193, 0, le_1076), (193, 0, le_1077), (193, 0, le_1078), (193, 0, le_1079), (193, 0, le_1080), (193, 0, le_1081), (193, 0, le_1082), (193, 0, le_1083), (193, 0, le_1084), (193, 0, le_1085), (193, 0, le_1086), (193, 0, le_1087), (193, 0, le_1088), (193, 0, le_1089), (193, 0, le_1090), (193, 0, le_1091), (193, 0, le_1092), (193, 0, le_1093), (193, 0, le_1094), (193, 0, le_1095), (193, 0, le_1096), (193, 0, le_1097), (193, 0, le_1098), (193, 0, le_1099), (193, 0, le_1100)]
theorem nxc_bolder_5_0 : ab_cn vwCl nn_T nn_C nn_sh nn_MT (nn_KI1.map (fun x => x.1)) (nn_KJ1.map (fun x => x.1)) (nn_PF1.map (fun x => x.1)) nn_kd (nn_PS1.map (fun x => x.1)) (nn_PM1.map (fun x => x.1)) nxk_bolder_5 3 0 nn_dt200 6 nxd_bolder_5.2.1.length nxd_bolder_5.2.2.2.2 2 [] [37, 47, 48] [(47, [(0, 3, 0, 0), (0, 1, 0, 0), (0, 2, 0, 0)]), (48, [(0, 4, 0, 0), (0, 5, 0, 0)])] [nxe_bolder_5_0, nxe_bolder_5_1, nxe_bolder_5_2, nxe_bolder_5_3, nxe_bolder_5_4, nxe_bolder_5_5, nxe_bolder_5_6, nxe_bolder_5_7] nxn_bolder_5 21 nxm_bolder_5_0 = true := by decide +kernel
theorem nxc_bolder_5_1 : ab_cn vwCl nn_T nn_C nn_sh nn_MT (nn_KI1.map (fun x => x.1)) (nn_KJ1.map (fun x => x.1)) (nn_PF1.map (fun x => x.1)) nn_kd (nn_PS1.map (fun x => x.1)) (nn_PM1.map (fun x => x.1)) nxk_bolder_5 3 0 nn_dt200 6 nxd_bolder_5.2.1.length nxd_bolder_5.2.2.2.2 2 [] [37, 47, 48] [(47, [(0, 3, 0, 0), (0, 1, 0, 0), (0, 2, 0, 0)]), (48, [(0, 4, 0, 0), (0, 5, 0, 0)])] [nxe_bolder_5_0, nxe_bolder_5_1, nxe_bolder_5_2, nxe_bolder_5_3, nxe_bolder_5_4, nxe_bolder_5_5, nxe_bolder_5_6, nxe_bolder_5_7] nxn_bolder_5 21 nxm_bolder_5_1 = true := by decide +kernel
theorem nxc_bolder_5_2 : ab_cn vwCl nn_T nn_C nn_sh nn_MT (nn_KI1.map (fun x => x.1)) (nn_KJ1.map (fun x => x.1)) (nn_PF1.map (fun x => x.1)) nn_kd (nn_PS1.map (fun x => x.1)) (nn_PM1.map (fun x => x.1)) nxk_bolder_5 3 0 nn_dt200 6 nxd_bolder_5.2.1.length nxd_bolder_5.2.2.2.2 2 [] [37, 47, 48] [(47, [(0, 3, 0, 0), (0, 1, 0, 0), (0, 2, 0, 0)]), (48, [(0, 4, 0, 0), (0, 5, 0, 0)])] [nxe_bolder_5_0, nxe_bolder_5_1, nxe_bolder_5_2, nxe_bolder_5_3, nxe_bolder_5_4, nxe_bolder_5_5, nxe_bolder_5_6, nxe_bolder_5_7] nxn_bolder_5 21 nxm_bolder_5_2 = true := by decide +kernel
theorem nxc_bolder_5_3 : ab_cn vwCl nn_T nn_C nn_sh nn_MT (nn_KI1.map (fun x => x.1)) (nn_KJ1.map (fun x => x.1)) (nn_PF1.map (fun x => x.1)) nn_kd (nn_PS1.map (fun x => x.1)) (nn_PM1.map (fun x => x.1)) nxk_bolder_5 3 0 nn_dt200 6 nxd_bolder_5.2.1.length nxd_bolder_5.2.2.2.2 2 [] [37, 47, 48] [(47, [(0, 3, 0, 0), (0, 1, 0, 0), (0, 2, 0, 0)]), (48, [(0, 4, 0, 0), (0, 5, 0, 0)])] [nxe_bolder_5_0, nxe_bolder_5_1, nxe_bolder_5_2, nxe_bolder_5_3, nxe_bolder_5_4, nxe_bolder_5_5, nxe_bolder_5_6, nxe_bolder_5_7] nxn_bolder_5 21 nxm_bolder_5_3 = true := by decide +kernel
theorem nxc_bolder_5_4 : ab_cn vwCl nn_T nn_C nn_sh nn_MT (nn_KI1.map (fun x => x.1)) (nn_KJ1.map (fun x => x.1)) (nn_PF1.map (fun x => x.1)) nn_kd (nn_PS1.map (fun x => x.1)) (nn_PM1.map (fun x => x.1)) nxk_bolder_5 3 0 nn_dt200 6 nxd_bolder_5.2.1.length nxd_bolder_5.2.2.2.2 2 [] [37, 47, 48] [(47, [(0, 3, 0, 0), (0, 1, 0, 0), (0, 2, 0, 0)]), (48, [(0, 4, 0, 0), (0, 5, 0, 0)])] [nxe_bolder_5_0, nxe_bolder_5_1, nxe_bolder_5_2, nxe_bolder_5_3, nxe_bolder_5_4, nxe_bolder_5_5, nxe_bolder_5_6, nxe_bolder_5_7] nxn_bolder_5 21 nxm_bolder_5_4 = true := by decide +kernel
theorem nxc_bolder_5_5 : ab_cn vwCl nn_T nn_C nn_sh nn_MT (nn_KI1.map (fun x => x.1)) (nn_KJ1.map (fun x => x.1)) (nn_PF1.map (fun x => x.1)) nn_kd (nn_PS1.map (fun x => x.1)) (nn_PM1.map (fun x => x.1)) nxk_bolder_5 3 0 nn_dt200 6 nxd_bolder_5.2.1.length nxd_bolder_5.2.2.2.2 2 [] [37, 47, 48] [(47, [(0, 3, 0, 0), (0, 1, 0, 0), (0, 2, 0, 0)]), (48, [(0, 4, 0, 0), (0, 5, 0, 0)])] [nxe_bolder_5_0, nxe_bolder_5_1, nxe_bolder_5_2, nxe_bolder_5_3, nxe_bolder_5_4, nxe_bolder_5_5, nxe_bolder_5_6, nxe_bolder_5_7] nxn_bolder_5 21 nxm_bolder_5_5 = true := by decide +kernel
theorem nxc_bolder_5_6 : ab_cn vwCl nn_T nn_C nn_sh nn_MT (nn_KI1.map (fun x => x.1)) (nn_KJ1.map (fun x => x.1)) (nn_PF1.map (fun x => x.1)) nn_kd (nn_PS1.map (fun x => x.1)) (nn_PM1.map (fun x => x.1)) nxk_bolder_5 3 0 nn_dt200 6 nxd_bolder_5.2.1.length nxd_bolder_5.2.2.2.2 2 [] [37, 47, 48] [(47, [(0, 3, 0, 0), (0, 1, 0, 0), (0, 2, 0, 0)]), (48, [(0, 4, 0, 0), (0, 5, 0, 0)])] [nxe_bolder_5_0, nxe_bolder_5_1, nxe_bolder_5_2, nxe_bolder_5_3, nxe_bolder_5_4, nxe_bolder_5_5, nxe_bolder_5_6, nxe_bolder_5_7] nxn_bolder_5 21 nxm_bolder_5_6 = true := by decide +kernel
theorem nxc_bolder_5_7 : ab_cn vwCl nn_T nn_C nn_sh nn_MT (nn_KI1.map (fun x => x.1)) (nn_KJ1.map (fun x => x.1)) (nn_PF1.map (fun x => x.1)) nn_kd (nn_PS1.map (fun x => x.1)) (nn_PM1.map (fun x => x.1)) nxk_bolder_5 3 0 nn_dt200 6 nxd_bolder_5.2.1.length nxd_bolder_5.2.2.2.2 2 [] [37, 47, 48] [(47, [(0, 3, 0, 0), (0, 1, 0, 0), (0, 2, 0, 0)]), (48, [(0, 4, 0, 0), (0, 5, 0, 0)])] [nxe_bolder_5_0, nxe_bolder_5_1, nxe_bolder_5_2, nxe_bolder_5_3, nxe_bolder_5_4, nxe_bolder_5_5, nxe_bolder_5_6, nxe_bolder_5_7] nxn_bolder_5 21 nxm_bolder_5_7 = true := by decide +kernel
theorem nxc_bolder_5_8 : ab_cn vwCl nn_T nn_C nn_sh nn_MT (nn_KI1.map (fun x => x.1)) (nn_KJ1.map (fun x => x.1)) (nn_PF1.map (fun x => x.1)) nn_kd (nn_PS1.map (fun x => x.1)) (nn_PM1.map (fun x => x.1)) nxk_bolder_5 3 0 nn_dt200 6 nxd_bolder_5.2.1.length nxd_bolder_5.2.2.2.2 2 [] [37, 47, 48] [(47, [(0, 3, 0, 0), (0, 1, 0, 0), (0, 2, 0, 0)]), (48, [(0, 4, 0, 0), (0, 5, 0, 0)])] [nxe_bolder_5_0, nxe_bolder_5_1, nxe_bolder_5_2, nxe_bolder_5_3, nxe_bolder_5_4, nxe_bolder_5_5, nxe_bolder_5_6, nxe_bolder_5_7] nxn_bolder_5 21 nxm_bolder_5_8 = true := by decide +kernel
theorem nxc_bolder_5_9 : ab_cn vwCl nn_T nn_C nn_sh nn_MT (nn_KI1.map (fun x => x.1)) (nn_KJ1.map (fun x => x.1)) (nn_PF1.map (fun x => x.1)) nn_kd (nn_PS1.map (fun x => x.1)) (nn_PM1.map (fun x => x.1)) nxk_bolder_5 3 0 nn_dt200 6 nxd_bolder_5.2.1.length nxd_bolder_5.2.2.2.2 2 [] [37, 47, 48] [(47, [(0, 3, 0, 0), (0, 1, 0, 0), (0, 2, 0, 0)]), (48, [(0, 4, 0, 0), (0, 5, 0, 0)])] [nxe_bolder_5_0, nxe_bolder_5_1, nxe_bolder_5_2, nxe_bolder_5_3, nxe_bolder_5_4, nxe_bolder_5_5, nxe_bolder_5_6, nxe_bolder_5_7] nxn_bolder_5 21 nxm_bolder_5_9 = true := by decide +kernel
theorem nxc_bolder_5 : nxn_bolder_5.all (ab_cn vwCl nn_T nn_C nn_sh nn_MT (nn_KI1.map (fun x => x.1)) (nn_KJ1.map (fun x => x.1)) (nn_PF1.map (fun x => x.1)) nn_kd (nn_PS1.map (fun x => x.1)) (nn_PM1.map (fun x => x.1)) nxk_bolder_5 3 0 nn_dt200 6 nxd_bolder_5.2.1.length nxd_bolder_5.2.2.2.2 2 [] [37, 47, 48] [(47, [(0, 3, 0, 0), (0, 1, 0, 0), (0, 2, 0, 0)]), (48, [(0, 4, 0, 0), (0, 5, 0, 0)])] [nxe_bolder_5_0, nxe_bolder_5_1, nxe_bolder_5_2, nxe_bolder_5_3, nxe_bolder_5_4, nxe_bolder_5_5, nxe_bolder_5_6, nxe_bolder_5_7] nxn_bolder_5 21) = true := List.all_eq_true.mpr (List.forall_mem_cons.mpr ⟨nxc_bolder_5_0, List.forall_mem_cons.mpr ⟨nxc_bolder_5_1, List.forall_mem_cons.mpr ⟨nxc_bolder_5_2, List.forall_mem_cons.mpr ⟨nxc_bolder_5_3, List.forall_mem_cons.mpr ⟨nxc_bolder_5_4, List.forall_mem_cons.mpr ⟨nxc_bolder_5_5, List.forall_mem_cons.mpr ⟨nxc_bolder_5_6, List.forall_mem_cons.mpr ⟨nxc_bolder_5_7, List.forall_mem_cons.mpr ⟨nxc_bolder_5_8, List.forall_mem_cons.mpr ⟨nxc_bolder_5_9, fun _ h => absurd h List.not_mem_nil⟩⟩⟩⟩⟩⟩⟩⟩⟩⟩)
set_option maxHeartbeats 4000000 in
theorem nxt_bolder_5 (l : Launch) (htr : l.stackTraces = false) (cy : Nat → ClassId) (ad wr cr : Nat → Nat) (D : va_G) (hinj : nn_inj ad) : nx_H l cy ad wr cr D (200, 3, nxd_bolder_5, nxo_bolder_5) := by
  refine nx_holdW (mr := (⟨"NameNotes", "bolder", "(IIIII)J"⟩, prog_1_method_37_code, 6, (Option.some Jvm.ClassFile.FieldType.long), 5, true, 2)) (dt := nn_dt200) (KS := nxk_bolder_5) htr hinj rfl rfl (by decide +kernel) nn_KI1_ok nn_KJ1_ok nn_PF1_ok nn_PS1_ok nn_PM1_ok (List.forall_mem_cons.mpr ⟨lf_736 l cy ad wr cr D hinj, List.forall_mem_cons.mpr ⟨lf_737 l cy ad wr cr D hinj, List.forall_mem_cons.mpr ⟨lf_738 l cy ad wr cr D hinj, List.forall_mem_cons.mpr ⟨lf_747 l cy ad wr cr D hinj, List.forall_mem_cons.mpr ⟨lf_753 l cy ad wr cr D hinj, List.forall_mem_cons.mpr ⟨lf_762 l cy ad wr cr D hinj, List.forall_mem_cons.mpr ⟨lf_766 l cy ad wr cr D hinj, List.forall_mem_cons.mpr ⟨lf_768 l cy ad wr cr D hinj, List.forall_mem_cons.mpr ⟨lf_776 l cy ad wr cr D hinj, List.forall_mem_cons.mpr ⟨lf_780 l cy ad wr cr D hinj, List.forall_mem_cons.mpr ⟨lf_782 l cy ad wr cr D hinj, List.forall_mem_cons.mpr ⟨lf_786 l cy ad wr cr D hinj, List.forall_mem_cons.mpr ⟨lf_787 l cy ad wr cr D hinj, List.forall_mem_cons.mpr ⟨lf_789 l cy ad wr cr D hinj, List.forall_mem_cons.mpr ⟨lf_790 l cy ad wr cr D hinj, List.forall_mem_cons.mpr ⟨lf_792 l cy ad wr cr D hinj, List.forall_mem_cons.mpr ⟨lf_793 l cy ad wr cr D hinj, List.forall_mem_cons.mpr ⟨lf_795 l cy ad wr cr D hinj, List.forall_mem_cons.mpr ⟨lf_796 l cy ad wr cr D hinj, List.forall_mem_cons.mpr ⟨lf_798 l cy ad wr cr D hinj, List.forall_mem_cons.mpr ⟨lf_799 l cy ad wr cr D hinj, List.forall_mem_cons.mpr ⟨lf_801 l cy ad wr cr D hinj, List.forall_mem_cons.mpr ⟨lf_802 l cy ad wr cr D hinj, List.forall_mem_cons.mpr ⟨lf_804 l cy ad wr cr D hinj, List.forall_mem_cons.mpr ⟨lf_805 l cy ad wr cr D hinj, List.forall_mem_cons.mpr ⟨lf_807 l cy ad wr cr D hinj, List.forall_mem_cons.mpr ⟨lf_808 l cy ad wr cr D hinj, List.forall_mem_cons.mpr ⟨lf_815 l cy ad wr cr D hinj, List.forall_mem_cons.mpr ⟨lf_816 l cy ad wr cr D hinj, List.forall_mem_cons.mpr ⟨lf_817 l cy ad wr cr D hinj, List.forall_mem_cons.mpr ⟨lf_818 l cy ad wr cr D hinj, List.forall_mem_cons.mpr ⟨lf_819 l cy ad wr cr D hinj, List.forall_mem_cons.mpr ⟨lf_820 l cy ad wr cr D hinj, List.forall_mem_cons.mpr ⟨lf_821 l cy ad wr cr D hinj, List.forall_mem_cons.mpr ⟨lf_822 l cy ad wr cr D hinj, List.forall_mem_cons.mpr ⟨lf_827 l cy ad wr cr D hinj, List.forall_mem_cons.mpr ⟨lf_828 l cy ad wr cr D hinj, List.forall_mem_cons.mpr ⟨lf_829 l cy ad wr cr D hinj, List.forall_mem_cons.mpr ⟨lf_830 l cy ad wr cr D hinj, List.forall_mem_cons.mpr ⟨lf_831 l cy ad wr cr D hinj, List.forall_mem_cons.mpr ⟨lf_832 l cy ad wr cr D hinj, List.forall_mem_cons.mpr ⟨lf_833 l cy ad wr cr D hinj, List.forall_mem_cons.mpr ⟨lf_834 l cy ad wr cr D hinj, List.forall_mem_cons.mpr ⟨lf_840 l cy ad wr cr D hinj, List.forall_mem_cons.mpr ⟨lf_841 l cy ad wr cr D hinj, List.forall_mem_cons.mpr ⟨lf_842 l cy ad wr cr D hinj, List.forall_mem_cons.mpr ⟨lf_843 l cy ad wr cr D hinj, List.forall_mem_cons.mpr ⟨lf_844 l cy ad wr cr D hinj, List.forall_mem_cons.mpr ⟨lf_849 l cy ad wr cr D hinj, List.forall_mem_cons.mpr ⟨lf_850 l cy ad wr cr D hinj, List.forall_mem_cons.mpr ⟨lf_1009 l cy ad wr cr D hinj, List.forall_mem_cons.mpr ⟨lf_1010 l cy ad wr cr D hinj, List.forall_mem_cons.mpr ⟨lf_1025 l cy ad wr cr D hinj, List.forall_mem_cons.mpr ⟨lf_1026 l cy ad wr cr D hinj, List.forall_mem_cons.mpr ⟨lf_1027 l cy ad wr cr D hinj, List.forall_mem_cons.mpr ⟨lf_1028 l cy ad wr cr D hinj, List.forall_mem_cons.mpr ⟨lf_1029 l cy ad wr cr D hinj, List.forall_mem_cons.mpr ⟨lf_1030 l cy ad wr cr D hinj, List.forall_mem_cons.mpr ⟨lf_1031 l cy ad wr cr D hinj, List.forall_mem_cons.mpr ⟨lf_1032 l cy ad wr cr D hinj, List.forall_mem_cons.mpr ⟨lf_1033 l cy ad wr cr D hinj, List.forall_mem_cons.mpr ⟨lf_1034 l cy ad wr cr D hinj, List.forall_mem_cons.mpr ⟨lf_1035 l cy ad wr cr D hinj, List.forall_mem_cons.mpr ⟨lf_1036 l cy ad wr cr D hinj, List.forall_mem_cons.mpr ⟨lf_1037 l cy ad wr cr D hinj, List.forall_mem_cons.mpr ⟨lf_1038 l cy ad wr cr D hinj, List.forall_mem_cons.mpr ⟨lf_1039 l cy ad wr cr D hinj, List.forall_mem_cons.mpr ⟨lf_1040 l cy ad wr cr D hinj, List.forall_mem_cons.mpr ⟨lf_1041 l cy ad wr cr D hinj, List.forall_mem_cons.mpr ⟨lf_1042 l cy ad wr cr D hinj, List.forall_mem_cons.mpr ⟨lf_1043 l cy ad wr cr D hinj, List.forall_mem_cons.mpr ⟨lf_1044 l cy ad wr cr D hinj, List.forall_mem_cons.mpr ⟨lf_1045 l cy ad wr cr D hinj, List.forall_mem_cons.mpr ⟨lf_1046 l cy ad wr cr D hinj, List.forall_mem_cons.mpr ⟨lf_1047 l cy ad wr cr D hinj, List.forall_mem_cons.mpr ⟨lf_1048 l cy ad wr cr D hinj, List.forall_mem_cons.mpr ⟨lf_1049 l cy ad wr cr D hinj, List.forall_mem_cons.mpr ⟨lf_1050 l cy ad wr cr D hinj, List.forall_mem_cons.mpr ⟨lf_1051 l cy ad wr cr D hinj, List.forall_mem_cons.mpr ⟨lf_1052 l cy ad wr cr D hinj, List.forall_mem_cons.mpr ⟨lf_1053 l cy ad wr cr D hinj, List.forall_mem_cons.mpr ⟨lf_1054 l cy ad wr cr D hinj, List.forall_mem_cons.mpr ⟨lf_1055 l cy ad wr cr D hinj, List.forall_mem_cons.mpr ⟨lf_1056 l cy ad wr cr D hinj, List.forall_mem_cons.mpr ⟨lf_1057 l cy ad wr cr D hinj, List.forall_mem_cons.mpr ⟨lf_1058 l cy ad wr cr D hinj, List.forall_mem_cons.mpr ⟨lf_1059 l cy ad wr cr D hinj, List.forall_mem_cons.mpr ⟨lf_1060 l cy ad wr cr D hinj, List.forall_mem_cons.mpr ⟨lf_1061 l cy ad wr cr D hinj, List.forall_mem_cons.mpr ⟨lf_1062 l cy ad wr cr D hinj, List.forall_mem_cons.mpr ⟨lf_1063 l cy ad wr cr D hinj, List.forall_mem_cons.mpr ⟨lf_1064 l cy ad wr cr D hinj, List.forall_mem_cons.mpr ⟨lf_1065 l cy ad wr cr D hinj, List.forall_mem_cons.mpr ⟨lf_1066 l cy ad wr cr D hinj, List.forall_mem_cons.mpr ⟨lf_1067 l cy ad wr cr D hinj, List.forall_mem_cons.mpr ⟨lf_1068 l cy ad wr cr D hinj, List.forall_mem_cons.mpr ⟨lf_1069 l cy ad wr cr D hinj, List.forall_mem_cons.mpr ⟨lf_1070 l cy ad wr cr D hinj, List.forall_mem_cons.mpr ⟨lf_1071 l cy ad wr cr D hinj, List.forall_mem_cons.mpr ⟨lf_1072 l cy ad wr cr D hinj, List.forall_mem_cons.mpr ⟨lf_1073 l cy ad wr cr D hinj, List.forall_mem_cons.mpr ⟨lf_1074 l cy ad wr cr D hinj, List.forall_mem_cons.mpr ⟨lf_1075 l cy ad wr cr D hinj, List.forall_mem_cons.mpr ⟨lf_1076 l cy ad wr cr D hinj, List.forall_mem_cons.mpr ⟨lf_1077 l cy ad wr cr D hinj, List.forall_mem_cons.mpr ⟨lf_1078 l cy ad wr cr D hinj, List.forall_mem_cons.mpr ⟨lf_1079 l cy ad wr cr D hinj, List.forall_mem_cons.mpr ⟨lf_1080 l cy ad wr cr D hinj, List.forall_mem_cons.mpr ⟨lf_1081 l cy ad wr cr D hinj, List.forall_mem_cons.mpr ⟨lf_1082 l cy ad wr cr D hinj, List.forall_mem_cons.mpr ⟨lf_1083 l cy ad wr cr D hinj, List.forall_mem_cons.mpr ⟨lf_1084 l cy ad wr cr D hinj, List.forall_mem_cons.mpr ⟨lf_1085 l cy ad wr cr D hinj, List.forall_mem_cons.mpr ⟨lf_1086 l cy ad wr cr D hinj, List.forall_mem_cons.mpr ⟨lf_1087 l cy ad wr cr D hinj, List.forall_mem_cons.mpr ⟨lf_1088 l cy ad wr cr D hinj, List.forall_mem_cons.mpr ⟨lf_1089 l cy ad wr cr D hinj, List.forall_mem_cons.mpr ⟨lf_1090 l cy ad wr cr D hinj, List.forall_mem_cons.mpr ⟨lf_1091 l cy ad wr cr D hinj, List.forall_mem_cons.mpr ⟨lf_1092 l cy ad wr cr D hinj, List.forall_mem_cons.mpr ⟨lf_1093 l cy ad wr cr D hinj, List.forall_mem_cons.mpr ⟨lf_1094 l cy ad wr cr D hinj, List.forall_mem_cons.mpr ⟨lf_1095 l cy ad wr cr D hinj, List.forall_mem_cons.mpr ⟨lf_1096 l cy ad wr cr D hinj, List.forall_mem_cons.mpr ⟨lf_1097 l cy ad wr cr D hinj, List.forall_mem_cons.mpr ⟨lf_1098 l cy ad wr cr D hinj, List.forall_mem_cons.mpr ⟨lf_1099 l cy ad wr cr D hinj, List.forall_mem_cons.mpr ⟨lf_1100 l cy ad wr cr D hinj, fun _ h => absurd h List.not_mem_nil⟩⟩⟩⟩⟩⟩⟩⟩⟩⟩⟩⟩⟩⟩⟩⟩⟩⟩⟩⟩⟩⟩⟩⟩⟩⟩⟩⟩⟩⟩⟩⟩⟩⟩⟩⟩⟩⟩⟩⟩⟩⟩⟩⟩⟩⟩⟩⟩⟩⟩⟩⟩⟩⟩⟩⟩⟩⟩⟩⟩⟩⟩⟩⟩⟩⟩⟩⟩⟩⟩⟩⟩⟩⟩⟩⟩⟩⟩⟩⟩⟩⟩⟩⟩⟩⟩⟩⟩⟩⟩⟩⟩⟩⟩⟩⟩⟩⟩⟩⟩⟩⟩⟩⟩⟩⟩⟩⟩⟩⟩⟩⟩⟩⟩⟩⟩⟩⟩⟩⟩⟩⟩⟩⟩⟩⟩⟩⟩) ?_
  intro p e s m below meth c R Q ρ σ hE hK hsy hP hRT hTH
  refine ab_entry (lev := 3) (sp := []) (HD := [37, 47, 48]) (HN := [(47, [(0, 3, 0, 0), (0, 1, 0, 0), (0, 2, 0, 0)]), (48, [(0, 4, 0, 0), (0, 5, 0, 0)])]) (EX := [nxe_bolder_5_0, nxe_bolder_5_1, nxe_bolder_5_2, nxe_bolder_5_3, nxe_bolder_5_4, nxe_bolder_5_5, nxe_bolder_5_6, nxe_bolder_5_7]) (NS := nxn_bolder_5) (fuel := 21) (mu := ((9000000000000000000000, [], []), (0, [], []), (0, [], []))) hE (by decide +kernel) hK hsy hP List.mem_cons_self hRT ?_ (fun nd hnd => List.all_eq_true.mp nxc_bolder_5 nd hnd)
  intro nd hnd ρ2 σ2 H locs ls st hG
  rcases List.mem_cons.mp hnd with rfl | hnd
  · exact hTH 37 _ ρ2 σ2 H locs ls st 213 "no such ones" 5 (by decide +kernel) rfl (by decide +kernel) (show decode prog_1_method_37_code 37 = .ok (.new 211, 3) by decide +kernel) (show decode prog_1_method_37_code 40 = .ok (.dup, 1) by decide +kernel) (Or.inl ⟨(show decode prog_1_method_37_code 41 = .ok (.ldc 213, 2) by decide +kernel), (show decode prog_1_method_37_code 43 = .ok (.invokespecial 215, 3) by decide +kernel), (show decode prog_1_method_37_code 46 = .ok (.athrow, 1) by decide +kernel)⟩) hG
  rcases List.mem_cons.mp hnd with rfl | hnd
  · exact hTH 37 _ ρ2 σ2 H locs ls st 213 "no such ones" 5 (by decide +kernel) rfl (by decide +kernel) (show decode prog_1_method_37_code 37 = .ok (.new 211, 3) by decide +kernel) (show decode prog_1_method_37_code 40 = .ok (.dup, 1) by decide +kernel) (Or.inl ⟨(show decode prog_1_method_37_code 41 = .ok (.ldc 213, 2) by decide +kernel), (show decode prog_1_method_37_code 43 = .ok (.invokespecial 215, 3) by decide +kernel), (show decode prog_1_method_37_code 46 = .ok (.athrow, 1) by decide +kernel)⟩) hG
  rcases List.mem_cons.mp hnd with rfl | hnd
  · exact hTH 37 _ ρ2 σ2 H locs ls st 213 "no such ones" 5 (by decide +kernel) rfl (by decide +kernel) (show decode prog_1_method_37_code 37 = .ok (.new 211, 3) by decide +kernel) (show decode prog_1_method_37_code 40 = .ok (.dup, 1) by decide +kernel) (Or.inl ⟨(show decode prog_1_method_37_code 41 = .ok (.ldc 213, 2) by decide +kernel), (show decode prog_1_method_37_code 43 = .ok (.invokespecial 215, 3) by decide +kernel), (show decode prog_1_method_37_code 46 = .ok (.athrow, 1) by decide +kernel)⟩) hG
  rcases List.mem_cons.mp hnd with rfl | hnd
  · exact hTH 37 _ ρ2 σ2 H locs ls st 213 "no such ones" 5 (by decide +kernel) rfl (by decide +kernel) (show decode prog_1_method_37_code 37 = .ok (.new 211, 3) by decide +kernel) (show decode prog_1_method_37_code 40 = .ok (.dup, 1) by decide +kernel) (Or.inl ⟨(show decode prog_1_method_37_code 41 = .ok (.ldc 213, 2) by decide +kernel), (show decode prog_1_method_37_code 43 = .ok (.invokespecial 215, 3) by decide +kernel), (show decode prog_1_method_37_code 46 = .ok (.athrow, 1) by decide +kernel)⟩) hG
  rcases List.mem_cons.mp hnd with rfl | hnd
  · exact hTH 37 _ ρ2 σ2 H locs ls st 213 "no such ones" 5 (by decide +kernel) rfl (by decide +kernel) (show decode prog_1_method_37_code 37 = .ok (.new 211, 3) by decide +kernel) (show decode prog_1_method_37_code 40 = .ok (.dup, 1) by decide +kernel) (Or.inl ⟨(show decode prog_1_method_37_code 41 = .ok (.ldc 213, 2) by decide +kernel), (show decode prog_1_method_37_code 43 = .ok (.invokespecial 215, 3) by decide +kernel), (show decode prog_1_method_37_code 46 = .ok (.athrow, 1) by decide +kernel)⟩) hG
  rcases List.mem_cons.mp hnd with rfl | hnd
  · exact hTH 37 _ ρ2 σ2 H locs ls st 213 "no such ones" 5 (by decide +kernel) rfl (by decide +kernel) (show decode prog_1_method_37_code 37 = .ok (.new 211, 3) by decide +kernel) (show decode prog_1_method_37_code 40 = .ok (.dup, 1) by decide +kernel) (Or.inl ⟨(show decode prog_1_method_37_code 41 = .ok (.ldc 213, 2) by decide +kernel), (show decode prog_1_method_37_code 43 = .ok (.invokespecial 215, 3) by decide +kernel), (show decode prog_1_method_37_code 46 = .ok (.athrow, 1) by decide +kernel)⟩) hG
  rcases List.mem_cons.mp hnd with rfl | hnd
  · exact hTH 37 _ ρ2 σ2 H locs ls st 213 "no such ones" 5 (by decide +kernel) rfl (by decide +kernel) (show decode prog_1_method_37_code 37 = .ok (.new 211, 3) by decide +kernel) (show decode prog_1_method_37_code 40 = .ok (.dup, 1) by decide +kernel) (Or.inl ⟨(show decode prog_1_method_37_code 41 = .ok (.ldc 213, 2) by decide +kernel), (show decode prog_1_method_37_code 43 = .ok (.invokespecial 215, 3) by decide +kernel), (show decode prog_1_method_37_code 46 = .ok (.athrow, 1) by decide +kernel)⟩) hG
  rcases List.mem_cons.mp hnd with rfl | hnd
  · exact hTH 37 _ ρ2 σ2 H locs ls st 213 "no such ones" 5 (by decide +kernel) rfl (by decide +kernel) (show decode prog_1_method_37_code 37 = .ok (.new 211, 3) by decide +kernel) (show decode prog_1_method_37_code 40 = .ok (.dup, 1) by decide +kernel) (Or.inl ⟨(show decode prog_1_method_37_code 41 = .ok (.ldc 213, 2) by decide +kernel), (show decode prog_1_method_37_code 43 = .ok (.invokespecial 215, 3) by decide +kernel), (show decode prog_1_method_37_code 46 = .ok (.athrow, 1) by decide +kernel)⟩) hG
  exact absurd hnd List.not_mem_nil
/-- NameNotes.bolder_6 -/
def nxd_bolder_6 : ab_CN := ([(2, 0, 0), (0, 1, 0), (0, 2, 0), (0, 3, 0), (0, 4, 0), (0, 5, 0)], [(0, 0), ((-2147483648), 2147483647), ((-2147483648), 2147483647), (5, 5), ((-2147483648), 2147483647), ((-2147483648), 2147483647)], [], [], [([(1, 0, 1)], [(0, 0), (2, 2), (2, 2), (5, 5), (9, 9), (1, 1)], [], [], [(90, 1000000), (91, 1000000)]),
    ([(1, 0, 1)], [(0, 0), (2, 2), (2, 2), (5, 5), (9, 9), (0, 0)], [], [], [(90, 1000000), (91, 1000000)]),
    ([(1, 0, 9)], [(0, 0), (2, 2), (2, 2), (5, 5), (8, 8), (1, 1)], [], [], [(90, 1000000), (91, 1000000)]),
    ([(1, 0, 8)], [(0, 0), (2, 2), (2, 2), (5, 5), (8, 8), (0, 0)], [], [], [(90, 1000000), (91, 1000000)]),
    ([(1, 0, 9)], [(0, 0), (2, 2), (2, 2), (5, 5), (7, 7), (1, 1)], [], [], [(90, 1000000), (91, 1000000)]),
    ([(1, 0, 7)], [(0, 0), (2, 2), (2, 2), (5, 5), (7, 7), (0, 0)], [], [], [(90, 1000000), (91, 1000000)]),
    ([(1, 0, 3)], [(0, 0), (2, 2), (2, 2), (5, 5), (6, 6), (1, 1)], [], [], [(90, 1000000), (91, 1000000)]),
    ([(1, 0, 2)], [(0, 0), (2, 2), (2, 2), (5, 5), (6, 6), (0, 0)], [], [], [(90, 1000000), (91, 1000000)]),
    ([(1, 0, 9)], [(0, 0), (2, 2), (2, 2), (5, 5), (5, 5), (1, 1)], [], [], [(90, 1000000), (91, 1000000)]),
    ([(1, 0, 5)], [(0, 0), (2, 2), (2, 2), (5, 5), (5, 5), (0, 0)], [], [], [(90, 1000000), (91, 1000000)]),
    ([(1, 0, 9)], [(0, 0), (2, 2), (2, 2), (5, 5), (4, 4), (1, 1)], [], [], [(90, 1000000), (91, 1000000)]),
    ([(1, 0, 5)], [(0, 0), (2, 2), (2, 2), (5, 5), (4, 4), (0, 0)], [], [], [(90, 1000000), (91, 1000000)]),
    ([(1, 0, 9)], [(0, 0), (2, 2), (2, 2), (5, 5), (3, 3), (1, 1)], [], [], [(90, 1000000), (91, 1000000)]),
    ([(1, 0, 5)], [(0, 0), (2, 2), (2, 2), (5, 5), (3, 3), (0, 0)], [], [], [(90, 1000000), (91, 1000000)]),
    ([(1, 0, 9)], [(0, 0), (2, 2), (2, 2), (5, 5), (2, 2), (1, 1)], [], [], [(90, 1000000), (91, 1000000)]),
    ([(1, 0, 5)], [(0, 0), (2, 2), (2, 2), (5, 5), (2, 2), (0, 0)], [], [], [(90, 1000000), (91, 1000000)]),
    ([(1, 0, 9)], [(0, 0), (2, 2), (2, 2), (5, 5), (1, 1), (1, 1)], [], [], [(90, 1000000), (91, 1000000)]),
    ([(1, 0, 5)], [(0, 0), (2, 2), (2, 2), (5, 5), (1, 1), (0, 0)], [], [], [(90, 1000000), (91, 1000000)]),
    ([(1, 0, 9)], [(0, 0), (2, 2), (2, 2), (5, 5), (0, 0), (1, 1)], [], [], [(90, 1000000), (91, 1000000)]),
    ([(1, 0, 5)], [(0, 0), (2, 2), (2, 2), (5, 5), (0, 0), (0, 0)], [], [], [(90, 1000000), (91, 1000000)]),
    ([(1, 0, 1)], [(0, 0), (2, 2), (1, 1), (5, 5), (9, 9), (1, 1)], [], [], [(90, 1000000), (91, 1000000)]),
    ([(1, 0, 1)], [(0, 0), (2, 2), (1, 1), (5, 5), (9, 9), (0, 0)], [], [], [(90, 1000000), (91, 1000000)]),
    ([(1, 0, 81)], [(0, 0), (2, 2), (1, 1), (5, 5), (8, 8), (1, 1)], [], [], [(90, 1000000), (91, 1000000)]),
    ([(1, 0, 77)], [(0, 0), (2, 2), (1, 1), (5, 5), (8, 8), (0, 0)], [], [], [(90, 1000000), (91, 1000000)]),
    ([(1, 0, 81)], [(0, 0), (2, 2), (1, 1), (5, 5), (7, 7), (1, 1)], [], [], [(90, 1000000), (91, 1000000)]),
    ([(1, 0, 73)], [(0, 0), (2, 2), (1, 1), (5, 5), (7, 7), (0, 0)], [], [], [(90, 1000000), (91, 1000000)]),
    ([(1, 0, 27)], [(0, 0), (2, 2), (1, 1), (5, 5), (6, 6), (1, 1)], [], [], [(90, 1000000), (91, 1000000)]),
    ([(1, 0, 23)], [(0, 0), (2, 2), (1, 1), (5, 5), (6, 6), (0, 0)], [], [], [(90, 1000000), (91, 1000000)]),
    ([(1, 0, 81)], [(0, 0), (2, 2), (1, 1), (5, 5), (5, 5), (1, 1)], [], [], [(90, 1000000), (91, 1000000)]),
    ([(1, 0, 65)], [(0, 0), (2, 2), (1, 1), (5, 5), (5, 5), (0, 0)], [], [], [(90, 1000000), (91, 1000000)]),
    ([(1, 0, 81)], [(0, 0), (2, 2), (1, 1), (5, 5), (4, 4), (1, 1)], [], [], [(90, 1000000), (91, 1000000)]),
    ([(1, 0, 65)], [(0, 0), (2, 2), (1, 1), (5, 5), (4, 4), (0, 0)], [], [], [(90, 1000000), (91, 1000000)]),
    ([(1, 0, 81)], [(0, 0), (2, 2), (1, 1), (5, 5), (3, 3), (1, 1)], [], [], [(90, 1000000), (91, 1000000)]),
    ([(1, 0, 65)], [(0, 0), (2, 2), (1, 1), (5, 5), (3, 3), (0, 0)], [], [], [(90, 1000000), (91, 1000000)]),
    ([(1, 0, 81)], [(0, 0), (2, 2), (1, 1), (5, 5), (2, 2), (1, 1)], [], [], [(90, 1000000), (91, 1000000)]),
    ([(1, 0, 65)], [(0, 0), (2, 2), (1, 1), (5, 5), (2, 2), (0, 0)], [], [], [(90, 1000000), (91, 1000000)]),
    ([(1, 0, 81)], [(0, 0), (2, 2), (1, 1), (5, 5), (1, 1), (1, 1)], [], [], [(90, 1000000), (91, 1000000)]),
    ([(1, 0, 65)], [(0, 0), (2, 2), (1, 1), (5, 5), (1, 1), (0, 0)], [], [], [(90, 1000000), (91, 1000000)]),
    ([(1, 0, 81)], [(0, 0), (2, 2), (1, 1), (5, 5), (0, 0), (1, 1)], [], [], [(90, 1000000), (91, 1000000)]),
    ([(1, 0, 65)], [(0, 0), (2, 2), (1, 1), (5, 5), (0, 0), (0, 0)], [], [], [(90, 1000000), (91, 1000000)]),
    ([(1, 0, 1)], [(0, 0), (2, 2), (0, 0), (5, 5), (9, 9), (1, 1)], [], [], [(90, 1000000), (91, 1000000)]),
    ([(1, 0, 1)], [(0, 0), (2, 2), (0, 0), (5, 5), (9, 9), (0, 0)], [], [], [(90, 1000000), (91, 1000000)]),
    ([(1, 0, 81)], [(0, 0), (2, 2), (0, 0), (5, 5), (8, 8), (1, 1)], [], [], [(90, 1000000), (91, 1000000)]),
    ([(1, 0, 80)], [(0, 0), (2, 2), (0, 0), (5, 5), (8, 8), (0, 0)], [], [], [(90, 1000000), (91, 1000000)]),
    ([(1, 0, 729)], [(0, 0), (2, 2), (0, 0), (5, 5), (7, 7), (1, 1)], [], [], [(90, 1000000), (91, 1000000)]),
    ([(1, 0, 697)], [(0, 0), (2, 2), (0, 0), (5, 5), (7, 7), (0, 0)], [], [], [(90, 1000000), (91, 1000000)]),
    ([(1, 0, 243)], [(0, 0), (2, 2), (0, 0), (5, 5), (6, 6), (1, 1)], [], [], [(90, 1000000), (91, 1000000)]),
    ([(1, 0, 227)], [(0, 0), (2, 2), (0, 0), (5, 5), (6, 6), (0, 0)], [], [], [(90, 1000000), (91, 1000000)]),
    ([(1, 0, 729)], [(0, 0), (2, 2), (0, 0), (5, 5), (5, 5), (1, 1)], [], [], [(90, 1000000), (91, 1000000)]),
    ([(1, 0, 665)], [(0, 0), (2, 2), (0, 0), (5, 5), (5, 5), (0, 0)], [], [], [(90, 1000000), (91, 1000000)]),
    ([(1, 0, 729)], [(0, 0), (2, 2), (0, 0), (5, 5), (4, 4), (1, 1)], [], [], [(90, 1000000), (91, 1000000)]),
    ([(1, 0, 665)], [(0, 0), (2, 2), (0, 0), (5, 5), (4, 4), (0, 0)], [], [], [(90, 1000000), (91, 1000000)]),
    ([(1, 0, 729)], [(0, 0), (2, 2), (0, 0), (5, 5), (3, 3), (1, 1)], [], [], [(90, 1000000), (91, 1000000)]),
    ([(1, 0, 665)], [(0, 0), (2, 2), (0, 0), (5, 5), (3, 3), (0, 0)], [], [], [(90, 1000000), (91, 1000000)]),
    ([(1, 0, 729)], [(0, 0), (2, 2), (0, 0), (5, 5), (2, 2), (1, 1)], [], [], [(90, 1000000), (91, 1000000)]),
    ([(1, 0, 665)], [(0, 0), (2, 2), (0, 0), (5, 5), (2, 2), (0, 0)], [], [], [(90, 1000000), (91, 1000000)]),
    ([(1, 0, 729)], [(0, 0), (2, 2), (0, 0), (5, 5), (1, 1), (1, 1)], [], [], [(90, 1000000), (91, 1000000)]),
    ([(1, 0, 665)], [(0, 0), (2, 2), (0, 0), (5, 5), (1, 1), (0, 0)], [], [], [(90, 1000000), (91, 1000000)]),
    ([(1, 0, 729)], [(0, 0), (2, 2), (0, 0), (5, 5), (0, 0), (1, 1)], [], [], [(90, 1000000), (91, 1000000)]),
    ([(1, 0, 665)], [(0, 0), (2, 2), (0, 0), (5, 5), (0, 0), (0, 0)], [], [], [(90, 1000000), (91, 1000000)]),
    ([(1, 0, 1)], [(0, 0), (1, 1), (2, 2), (5, 5), (9, 9), (1, 1)], [], [], [(90, 1000000), (91, 1000000)]),
    ([(1, 0, 1)], [(0, 0), (1, 1), (2, 2), (5, 5), (9, 9), (0, 0)], [], [], [(90, 1000000), (91, 1000000)]),
    ([(1, 0, 9)], [(0, 0), (1, 1), (2, 2), (5, 5), (8, 8), (1, 1)], [], [], [(90, 1000000), (91, 1000000)]),
    ([(1, 0, 8)], [(0, 0), (1, 1), (2, 2), (5, 5), (8, 8), (0, 0)], [], [], [(90, 1000000), (91, 1000000)]),
    ([(1, 0, 9)], [(0, 0), (1, 1), (2, 2), (5, 5), (7, 7), (1, 1)], [], [], [(90, 1000000), (91, 1000000)]),
    ([(1, 0, 7)], [(0, 0), (1, 1), (2, 2), (5, 5), (7, 7), (0, 0)], [], [], [(90, 1000000), (91, 1000000)]),
    ([(1, 0, 3)], [(0, 0), (1, 1), (2, 2), (5, 5), (6, 6), (1, 1)], [], [], [(90, 1000000), (91, 1000000)]),
    ([(1, 0, 2)], [(0, 0), (1, 1), (2, 2), (5, 5), (6, 6), (0, 0)], [], [], [(90, 1000000), (91, 1000000)]),
    ([(1, 0, 9)], [(0, 0), (1, 1), (2, 2), (5, 5), (5, 5), (1, 1)], [], [], [(90, 1000000), (91, 1000000)]),
    ([(1, 0, 5)], [(0, 0), (1, 1), (2, 2), (5, 5), (5, 5), (0, 0)], [], [], [(90, 1000000), (91, 1000000)]),
    ([(1, 0, 9)], [(0, 0), (1, 1), (2, 2), (5, 5), (4, 4), (1, 1)], [], [], [(90, 1000000), (91, 1000000)]),
    ([(1, 0, 4)], [(0, 0), (1, 1), (2, 2), (5, 5), (4, 4), (0, 0)], [], [], [(90, 1000000), (91, 1000000)]),
    ([(1, 0, 3)], [(0, 0), (1, 1), (2, 2), (5, 5), (3, 3), (1, 1)], [], [], [(90, 1000000), (91, 1000000)]),
    ([(1, 0, 1)], [(0, 0), (1, 1), (2, 2), (5, 5), (3, 3), (0, 0)], [], [], [(90, 1000000), (91, 1000000)]),
    ([(1, 0, 81)], [(0, 0), (1, 1), (2, 2), (5, 5), (2, 2), (1, 1)], [], [], [(90, 1000000), (91, 1000000)]),
    ([(1, 0, 25)], [(0, 0), (1, 1), (2, 2), (5, 5), (2, 2), (0, 0)], [], [], [(90, 1000000), (91, 1000000)]),
    ([(1, 0, 81)], [(0, 0), (1, 1), (2, 2), (5, 5), (1, 1), (1, 1)], [], [], [(90, 1000000), (91, 1000000)]),
    ([(1, 0, 25)], [(0, 0), (1, 1), (2, 2), (5, 5), (1, 1), (0, 0)], [], [], [(90, 1000000), (91, 1000000)]),
    ([(1, 0, 81)], [(0, 0), (1, 1), (2, 2), (5, 5), (0, 0), (1, 1)], [], [], [(90, 1000000), (91, 1000000)]),
    ([(1, 0, 25)], [(0, 0), (1, 1), (2, 2), (5, 5), (0, 0), (0, 0)], [], [], [(90, 1000000), (91, 1000000)]),
    ([(1, 0, 1)], [(0, 0), (1, 1), (1, 1), (5, 5), (9, 9), (1, 1)], [], [], [(90, 1000000), (91, 1000000)]),
    ([(1, 0, 1)], [(0, 0), (1, 1), (1, 1), (5, 5), (9, 9), (0, 0)], [], [], [(90, 1000000), (91, 1000000)]),
    ([(1, 0, 729)], [(0, 0), (1, 1), (1, 1), (5, 5), (8, 8), (1, 1)], [], [], [(90, 1000000), (91, 1000000)]),
    ([(1, 0, 673)], [(0, 0), (1, 1), (1, 1), (5, 5), (8, 8), (0, 0)], [], [], [(90, 1000000), (91, 1000000)]),
    ([(1, 0, 729)], [(0, 0), (1, 1), (1, 1), (5, 5), (7, 7), (1, 1)], [], [], [(90, 1000000), (91, 1000000)]),
    ([(1, 0, 617)], [(0, 0), (1, 1), (1, 1), (5, 5), (7, 7), (0, 0)], [], [], [(90, 1000000), (91, 1000000)]),
    ([(1, 0, 243)], [(0, 0), (1, 1), (1, 1), (5, 5), (6, 6), (1, 1)], [], [], [(90, 1000000), (91, 1000000)]),
    ([(1, 0, 187)], [(0, 0), (1, 1), (1, 1), (5, 5), (6, 6), (0, 0)], [], [], [(90, 1000000), (91, 1000000)]),
    ([(1, 0, 729)], [(0, 0), (1, 1), (1, 1), (5, 5), (5, 5), (1, 1)], [], [], [(90, 1000000), (91, 1000000)]),
    ([(1, 0, 505)], [(0, 0), (1, 1), (1, 1), (5, 5), (5, 5), (0, 0)], [], [], [(90, 1000000), (91, 1000000)]),
    ([(1, 0, 729)], [(0, 0), (1, 1), (1, 1), (5, 5), (4, 4), (1, 1)], [], [], [(90, 1000000), (91, 1000000)]),
    ([(1, 0, 469)], [(0, 0), (1, 1), (1, 1), (5, 5), (4, 4), (0, 0)], [], [], [(90, 1000000), (91, 1000000)]),
    ([(1, 0, 729)], [(0, 0), (1, 1), (1, 1), (5, 5), (3, 3), (1, 1)], [], [], [(90, 1000000), (91, 1000000)]),
    ([(1, 0, 433)], [(0, 0), (1, 1), (1, 1), (5, 5), (3, 3), (0, 0)], [], [], [(90, 1000000), (91, 1000000)]),
    ([(1, 0, 729)], [(0, 0), (1, 1), (1, 1), (5, 5), (2, 2), (1, 1)], [], [], [(90, 1000000), (91, 1000000)]),
    ([(1, 0, 425)], [(0, 0), (1, 1), (1, 1), (5, 5), (2, 2), (0, 0)], [], [], [(90, 1000000), (91, 1000000)]),
    ([(1, 0, 729)], [(0, 0), (1, 1), (1, 1), (5, 5), (1, 1), (1, 1)], [], [], [(90, 1000000), (91, 1000000)]),
    ([(1, 0, 425)], [(0, 0), (1, 1), (1, 1), (5, 5), (1, 1), (0, 0)], [], [], [(90, 1000000), (91, 1000000)]),
    ([(1, 0, 729)], [(0, 0), (1, 1), (1, 1), (5, 5), (0, 0), (1, 1)], [], [], [(90, 1000000), (91, 1000000)]),
    ([(1, 0, 425)], [(0, 0), (1, 1), (1, 1), (5, 5), (0, 0), (0, 0)], [], [], [(90, 1000000), (91, 1000000)]),
    ([(1, 0, 1)], [(0, 0), (1, 1), (0, 0), (5, 5), (9, 9), (1, 1)], [], [], [(90, 1000000), (91, 1000000)]),
    ([(1, 0, 1)], [(0, 0), (1, 1), (0, 0), (5, 5), (9, 9), (0, 0)], [], [], [(90, 1000000), (91, 1000000)]),
    ([(1, 0, 81)], [(0, 0), (1, 1), (0, 0), (5, 5), (8, 8), (1, 1)], [], [], [(90, 1000000), (91, 1000000)]),
    ([(1, 0, 80)], [(0, 0), (1, 1), (0, 0), (5, 5), (8, 8), (0, 0)], [], [], [(90, 1000000), (91, 1000000)]),
    ([(1, 0, 81)], [(0, 0), (1, 1), (0, 0), (5, 5), (7, 7), (1, 1)], [], [], [(90, 1000000), (91, 1000000)]),
    ([(1, 0, 77)], [(0, 0), (1, 1), (0, 0), (5, 5), (7, 7), (0, 0)], [], [], [(90, 1000000), (91, 1000000)]),
    ([(1, 0, 9)], [(0, 0), (1, 1), (0, 0), (5, 5), (6, 6), (1, 1)], [], [], [(90, 1000000), (91, 1000000)]),
    ([(1, 0, 8)], [(0, 0), (1, 1), (0, 0), (5, 5), (6, 6), (0, 0)], [], [], [(90, 1000000), (91, 1000000)]),
    ([(1, 0, 6561)], [(0, 0), (1, 1), (0, 0), (5, 5), (5, 5), (1, 1)], [], [], [(90, 1000000), (91, 1000000)]),
    ([(1, 0, 5345)], [(0, 0), (1, 1), (0, 0), (5, 5), (5, 5), (0, 0)], [], [], [(90, 1000000), (91, 1000000)]),
    ([(1, 0, 6561)], [(0, 0), (1, 1), (0, 0), (5, 5), (4, 4), (1, 1)], [], [], [(90, 1000000), (91, 1000000)]),
    ([(1, 0, 5201)], [(0, 0), (1, 1), (0, 0), (5, 5), (4, 4), (0, 0)], [], [], [(90, 1000000), (91, 1000000)]),
    ([(1, 0, 6561)], [(0, 0), (1, 1), (0, 0), (5, 5), (3, 3), (1, 1)], [], [], [(90, 1000000), (91, 1000000)]),
    ([(1, 0, 5057)], [(0, 0), (1, 1), (0, 0), (5, 5), (3, 3), (0, 0)], [], [], [(90, 1000000), (91, 1000000)]),
    ([(1, 0, 2187)], [(0, 0), (1, 1), (0, 0), (5, 5), (2, 2), (1, 1)], [], [], [(90, 1000000), (91, 1000000)]),
    ([(1, 0, 1675)], [(0, 0), (1, 1), (0, 0), (5, 5), (2, 2), (0, 0)], [], [], [(90, 1000000), (91, 1000000)]),
    ([(1, 0, 2187)], [(0, 0), (1, 1), (0, 0), (5, 5), (1, 1), (1, 1)], [], [], [(90, 1000000), (91, 1000000)]),
    ([(1, 0, 1675)], [(0, 0), (1, 1), (0, 0), (5, 5), (1, 1), (0, 0)], [], [], [(90, 1000000), (91, 1000000)]),
    ([(1, 0, 2187)], [(0, 0), (1, 1), (0, 0), (5, 5), (0, 0), (1, 1)], [], [], [(90, 1000000), (91, 1000000)]),
    ([(1, 0, 1675)], [(0, 0), (1, 1), (0, 0), (5, 5), (0, 0), (0, 0)], [], [], [(90, 1000000), (91, 1000000)]),
    ([(1, 0, 1)], [(0, 0), (0, 0), (2, 2), (5, 5), (9, 9), (1, 1)], [], [], [(90, 1000000), (91, 1000000)]),
    ([(1, 0, 1)], [(0, 0), (0, 0), (2, 2), (5, 5), (9, 9), (0, 0)], [], [], [(90, 1000000), (91, 1000000)]),
    ([(1, 0, 81)], [(0, 0), (0, 0), (2, 2), (5, 5), (8, 8), (1, 1)], [], [], [(90, 1000000), (91, 1000000)]),
    ([(1, 0, 64)], [(0, 0), (0, 0), (2, 2), (5, 5), (8, 8), (0, 0)], [], [], [(90, 1000000), (91, 1000000)]),
    ([(1, 0, 81)], [(0, 0), (0, 0), (2, 2), (5, 5), (7, 7), (1, 1)], [], [], [(90, 1000000), (91, 1000000)]),
    ([(1, 0, 49)], [(0, 0), (0, 0), (2, 2), (5, 5), (7, 7), (0, 0)], [], [], [(90, 1000000), (91, 1000000)]),
    ([(1, 0, 9)], [(0, 0), (0, 0), (2, 2), (5, 5), (6, 6), (1, 1)], [], [], [(90, 1000000), (91, 1000000)]),
    ([(1, 0, 4)], [(0, 0), (0, 0), (2, 2), (5, 5), (6, 6), (0, 0)], [], [], [(90, 1000000), (91, 1000000)]),
    ([(1, 0, 81)], [(0, 0), (0, 0), (2, 2), (5, 5), (5, 5), (1, 1)], [], [], [(90, 1000000), (91, 1000000)]),
    ([(1, 0, 25)], [(0, 0), (0, 0), (2, 2), (5, 5), (5, 5), (0, 0)], [], [], [(90, 1000000), (91, 1000000)]),
    ([(1, 0, 81)], [(0, 0), (0, 0), (2, 2), (5, 5), (4, 4), (1, 1)], [], [], [(90, 1000000), (91, 1000000)]),
    ([(1, 0, 20)], [(0, 0), (0, 0), (2, 2), (5, 5), (4, 4), (0, 0)], [], [], [(90, 1000000), (91, 1000000)]),
    ([(1, 0, 27)], [(0, 0), (0, 0), (2, 2), (5, 5), (3, 3), (1, 1)], [], [], [(90, 1000000), (91, 1000000)]),
    ([(1, 0, 5)], [(0, 0), (0, 0), (2, 2), (5, 5), (3, 3), (0, 0)], [], [], [(90, 1000000), (91, 1000000)]),
    ([(1, 0, 729)], [(0, 0), (0, 0), (2, 2), (5, 5), (2, 2), (1, 1)], [], [], [(90, 1000000), (91, 1000000)]),
    ([(1, 0, 125)], [(0, 0), (0, 0), (2, 2), (5, 5), (2, 2), (0, 0)], [], [], [(90, 1000000), (91, 1000000)]),
    ([(1, 0, 729)], [(0, 0), (0, 0), (2, 2), (5, 5), (1, 1), (1, 1)], [], [], [(90, 1000000), (91, 1000000)]),
    ([(1, 0, 125)], [(0, 0), (0, 0), (2, 2), (5, 5), (1, 1), (0, 0)], [], [], [(90, 1000000), (91, 1000000)]),
    ([(1, 0, 729)], [(0, 0), (0, 0), (2, 2), (5, 5), (0, 0), (1, 1)], [], [], [(90, 1000000), (91, 1000000)]),
    ([(1, 0, 125)], [(0, 0), (0, 0), (2, 2), (5, 5), (0, 0), (0, 0)], [], [], [(90, 1000000), (91, 1000000)]),
    ([(1, 0, 1)], [(0, 0), (0, 0), (1, 1), (5, 5), (9, 9), (1, 1)], [], [], [(90, 1000000), (91, 1000000)]),
    ([(1, 0, 1)], [(0, 0), (0, 0), (1, 1), (5, 5), (9, 9), (0, 0)], [], [], [(90, 1000000), (91, 1000000)]),
    ([(1, 0, 6561)], [(0, 0), (0, 0), (1, 1), (5, 5), (8, 8), (1, 1)], [], [], [(90, 1000000), (91, 1000000)]),
    ([(1, 0, 5669)], [(0, 0), (0, 0), (1, 1), (5, 5), (8, 8), (0, 0)], [], [], [(90, 1000000), (91, 1000000)]),
    ([(1, 0, 6561)], [(0, 0), (0, 0), (1, 1), (5, 5), (7, 7), (1, 1)], [], [], [(90, 1000000), (91, 1000000)]),
    ([(1, 0, 4849)], [(0, 0), (0, 0), (1, 1), (5, 5), (7, 7), (0, 0)], [], [], [(90, 1000000), (91, 1000000)]),
    ([(1, 0, 2187)], [(0, 0), (0, 0), (1, 1), (5, 5), (6, 6), (1, 1)], [], [], [(90, 1000000), (91, 1000000)]),
    ([(1, 0, 1367)], [(0, 0), (0, 0), (1, 1), (5, 5), (6, 6), (0, 0)], [], [], [(90, 1000000), (91, 1000000)]),
    ([(1, 0, 6561)], [(0, 0), (0, 0), (1, 1), (5, 5), (5, 5), (1, 1)], [], [], [(90, 1000000), (91, 1000000)]),
    ([(1, 0, 3425)], [(0, 0), (0, 0), (1, 1), (5, 5), (5, 5), (0, 0)], [], [], [(90, 1000000), (91, 1000000)]),
    ([(1, 0, 6561)], [(0, 0), (0, 0), (1, 1), (5, 5), (4, 4), (1, 1)], [], [], [(90, 1000000), (91, 1000000)]),
    ([(1, 0, 3065)], [(0, 0), (0, 0), (1, 1), (5, 5), (4, 4), (0, 0)], [], [], [(90, 1000000), (91, 1000000)]),
    ([(1, 0, 6561)], [(0, 0), (0, 0), (1, 1), (5, 5), (3, 3), (1, 1)], [], [], [(90, 1000000), (91, 1000000)]),
    ([(1, 0, 2705)], [(0, 0), (0, 0), (1, 1), (5, 5), (3, 3), (0, 0)], [], [], [(90, 1000000), (91, 1000000)]),
    ([(1, 0, 2187)], [(0, 0), (0, 0), (1, 1), (5, 5), (2, 2), (1, 1)], [], [], [(90, 1000000), (91, 1000000)]),
    ([(1, 0, 875)], [(0, 0), (0, 0), (1, 1), (5, 5), (2, 2), (0, 0)], [], [], [(90, 1000000), (91, 1000000)]),
    ([(1, 0, 2187)], [(0, 0), (0, 0), (1, 1), (5, 5), (1, 1), (1, 1)], [], [], [(90, 1000000), (91, 1000000)]),
    ([(1, 0, 875)], [(0, 0), (0, 0), (1, 1), (5, 5), (1, 1), (0, 0)], [], [], [(90, 1000000), (91, 1000000)]),
    ([(1, 0, 2187)], [(0, 0), (0, 0), (1, 1), (5, 5), (0, 0), (1, 1)], [], [], [(90, 1000000), (91, 1000000)]),
    ([(1, 0, 875)], [(0, 0), (0, 0), (1, 1), (5, 5), (0, 0), (0, 0)], [], [], [(90, 1000000), (91, 1000000)]),
    ([(1, 0, 1)], [(0, 0), (0, 0), (0, 0), (5, 5), (9, 9), (1, 1)], [], [], [(90, 1000000), (91, 1000000)]),
    ([(1, 0, 1)], [(0, 0), (0, 0), (0, 0), (5, 5), (9, 9), (0, 0)], [], [], [(90, 1000000), (91, 1000000)]),
    ([(1, 0, 729)], [(0, 0), (0, 0), (0, 0), (5, 5), (8, 8), (1, 1)], [], [], [(90, 1000000), (91, 1000000)]),
    ([(1, 0, 704)], [(0, 0), (0, 0), (0, 0), (5, 5), (8, 8), (0, 0)], [], [], [(90, 1000000), (91, 1000000)]),
    ([(1, 0, 6561)], [(0, 0), (0, 0), (0, 0), (5, 5), (7, 7), (1, 1)], [], [], [(90, 1000000), (91, 1000000)]),
    ([(1, 0, 5761)], [(0, 0), (0, 0), (0, 0), (5, 5), (7, 7), (0, 0)], [], [], [(90, 1000000), (91, 1000000)]),
    ([(1, 0, 19683)], [(0, 0), (0, 0), (0, 0), (5, 5), (6, 6), (1, 1)], [], [], [(90, 1000000), (91, 1000000)]),
    ([(1, 0, 15188)], [(0, 0), (0, 0), (0, 0), (5, 5), (6, 6), (0, 0)], [], [], [(90, 1000000), (91, 1000000)]),
    ([(1, 0, 19683)], [(0, 0), (0, 0), (0, 0), (5, 5), (5, 5), (1, 1)], [], [], [(90, 1000000), (91, 1000000)]),
    ([(1, 0, 13475)], [(0, 0), (0, 0), (0, 0), (5, 5), (5, 5), (0, 0)], [], [], [(90, 1000000), (91, 1000000)]),
    ([(1, 0, 19683)], [(0, 0), (0, 0), (0, 0), (5, 5), (4, 4), (1, 1)], [], [], [(90, 1000000), (91, 1000000)]),
    ([(1, 0, 12755)], [(0, 0), (0, 0), (0, 0), (5, 5), (4, 4), (0, 0)], [], [], [(90, 1000000), (91, 1000000)]),
    ([(1, 0, 19683)], [(0, 0), (0, 0), (0, 0), (5, 5), (3, 3), (1, 1)], [], [], [(90, 1000000), (91, 1000000)]),
    ([(1, 0, 12035)], [(0, 0), (0, 0), (0, 0), (5, 5), (3, 3), (0, 0)], [], [], [(90, 1000000), (91, 1000000)]),
    ([(1, 0, 19683)], [(0, 0), (0, 0), (0, 0), (5, 5), (2, 2), (1, 1)], [], [], [(90, 1000000), (91, 1000000)]),
    ([(1, 0, 11875)], [(0, 0), (0, 0), (0, 0), (5, 5), (2, 2), (0, 0)], [], [], [(90, 1000000), (91, 1000000)]),
    ([(1, 0, 19683)], [(0, 0), (0, 0), (0, 0), (5, 5), (1, 1), (1, 1)], [], [], [(90, 1000000), (91, 1000000)]),
    ([(1, 0, 11875)], [(0, 0), (0, 0), (0, 0), (5, 5), (1, 1), (0, 0)], [], [], [(90, 1000000), (91, 1000000)]),
    ([(1, 0, 19683)], [(0, 0), (0, 0), (0, 0), (5, 5), (0, 0), (1, 1)], [], [], [(90, 1000000), (91, 1000000)]),
    ([(1, 0, 11875)], [(0, 0), (0, 0), (0, 0), (5, 5), (0, 0), (0, 0)], [], [], [(90, 1000000), (91, 1000000)])])
def nxo_bolder_6 : List ab_OU := [([], [(0, 0), ((-2147483648), (-1)), ((-2147483648), 2147483647), (5, 5), ((-2147483648), 2147483647), ((-2147483648), 2147483647)], [], [], []),
    ([], [(0, 0), (3, 2147483647), ((-2147483648), 2147483647), (5, 5), ((-2147483648), 2147483647), ((-2147483648), 2147483647)], [], [], []),
    ([], [(0, 0), (0, 2), ((-2147483648), (-1)), (5, 5), ((-2147483648), 2147483647), ((-2147483648), 2147483647)], [], [], []),
    ([], [(0, 0), (0, 2), (3, 2147483647), (5, 5), ((-2147483648), 2147483647), ((-2147483648), 2147483647)], [], [], []),
    ([], [(0, 0), (0, 2), (0, 2), (5, 5), ((-2147483648), (-1)), ((-2147483648), 2147483647)], [], [], []),
    ([], [(0, 0), (0, 2), (0, 2), (5, 5), (10, 2147483647), ((-2147483648), 2147483647)], [], [], []),
    ([], [(0, 0), (0, 2), (0, 2), (5, 5), (0, 9), ((-2147483648), (-1))], [], [], []),
    ([], [(0, 0), (0, 2), (0, 2), (5, 5), (0, 9), (2, 2147483647)], [], [], [])]
def nxe_bolder_6_0 : ab_ND := (37, ([(0, (2, 0, 0)), (1, (0, 1, 0)), (2, (0, 2, 0)), (3, (0, 3, 0)), (4, (0, 4, 0)), (5, (0, 5, 0))], [], [(0, 0), ((-2147483648), (-1)), ((-2147483648), 2147483647), (5, 5), ((-2147483648), 2147483647), ((-2147483648), 2147483647)], [], [], []), ((0, [], []), (0, [], []), (0, [], [])))
def nxe_bolder_6_1 : ab_ND := (37, ([(0, (2, 0, 0)), (1, (0, 1, 0)), (2, (0, 2, 0)), (3, (0, 3, 0)), (4, (0, 4, 0)), (5, (0, 5, 0))], [], [(0, 0), (3, 2147483647), ((-2147483648), 2147483647), (5, 5), ((-2147483648), 2147483647), ((-2147483648), 2147483647)], [], [], []), ((0, [], []), (0, [], []), (0, [], [])))
def nxe_bolder_6_2 : ab_ND := (37, ([(0, (2, 0, 0)), (1, (0, 1, 0)), (2, (0, 2, 0)), (3, (0, 3, 0)), (4, (0, 4, 0)), (5, (0, 5, 0))], [], [(0, 0), (0, 2), ((-2147483648), (-1)), (5, 5), ((-2147483648), 2147483647), ((-2147483648), 2147483647)], [], [], []), ((0, [], []), (0, [], []), (0, [], [])))
def nxe_bolder_6_3 : ab_ND := (37, ([(0, (2, 0, 0)), (1, (0, 1, 0)), (2, (0, 2, 0)), (3, (0, 3, 0)), (4, (0, 4, 0)), (5, (0, 5, 0))], [], [(0, 0), (0, 2), (3, 2147483647), (5, 5), ((-2147483648), 2147483647), ((-2147483648), 2147483647)], [], [], []), ((0, [], []), (0, [], []), (0, [], [])))
def nxe_bolder_6_4 : ab_ND := (37, ([(0, (2, 0, 0)), (1, (0, 1, 0)), (2, (0, 2, 0)), (3, (0, 3, 0)), (4, (0, 4, 0)), (5, (0, 5, 0))], [], [(0, 0), (0, 2), (0, 2), (5, 5), ((-2147483648), (-1)), ((-2147483648), 2147483647)], [], [], []), ((0, [], []), (0, [], []), (0, [], [])))
def nxe_bolder_6_5 : ab_ND := (37, ([(0, (2, 0, 0)), (1, (0, 1, 0)), (2, (0, 2, 0)), (3, (0, 3, 0)), (4, (0, 4, 0)), (5, (0, 5, 0))], [], [(0, 0), (0, 2), (0, 2), (5, 5), (10, 2147483647), ((-2147483648), 2147483647)], [], [], []), ((0, [], []), (0, [], []), (0, [], [])))
def nxe_bolder_6_6 : ab_ND := (37, ([(0, (2, 0, 0)), (1, (0, 1, 0)), (2, (0, 2, 0)), (3, (0, 3, 0)), (4, (0, 4, 0)), (5, (0, 5, 0))], [], [(0, 0), (0, 2), (0, 2), (5, 5), (0, 9), ((-2147483648), (-1))], [], [], []), ((0, [], []), (0, [], []), (0, [], [])))
def nxe_bolder_6_7 : ab_ND := (37, ([(0, (2, 0, 0)), (1, (0, 1, 0)), (2, (0, 2, 0)), (3, (0, 3, 0)), (4, (0, 4, 0)), (5, (0, 5, 0))], [], [(0, 0), (0, 2), (0, 2), (5, 5), (0, 9), (2, 2147483647)], [], [], []), ((0, [], []), (0, [], []), (0, [], [])))
def nxm_bolder_6_0 : ab_ND := (0, (ab_en0 0 nxd_bolder_6.1, [], nxd_bolder_6.2.1, nxd_bolder_6.2.2.1, nxd_bolder_6.2.2.2.1, []), ((9000000000000000000000, [], []), (0, [], []), (0, [], [])))
def nxm_bolder_6_1 : ab_ND := (48, ([(0, (2, 0, 0)), (1, (0, 0, 2)), (2, (0, 0, 2)), (3, (0, 0, 5)), (4, (0, 4, 0)), (5, (0, 5, 0))], [(2, 0, 0)], [(0, 0), (2, 2), (2, 2), (5, 5), (0, 9), (0, 1)], [], [], []), ((0, [], []), (0, [], []), (0, [], [])))
def nxm_bolder_6_2 : ab_ND := (48, ([(0, (2, 0, 0)), (1, (0, 0, 2)), (2, (0, 0, 1)), (3, (0, 0, 5)), (4, (0, 4, 0)), (5, (0, 5, 0))], [(2, 0, 0)], [(0, 0), (2, 2), (1, 1), (5, 5), (0, 9), (0, 1)], [], [], []), ((1000000000000000000000, [], []), (0, [], []), (0, [], [])))
def nxm_bolder_6_3 : ab_ND := (48, ([(0, (2, 0, 0)), (1, (0, 0, 2)), (2, (0, 0, 0)), (3, (0, 0, 5)), (4, (0, 4, 0)), (5, (0, 5, 0))], [(2, 0, 0)], [(0, 0), (2, 2), (0, 0), (5, 5), (0, 9), (0, 1)], [], [], []), ((2000000000000000000000, [], []), (0, [], []), (0, [], [])))
def nxm_bolder_6_4 : ab_ND := (48, ([(0, (2, 0, 0)), (1, (0, 0, 1)), (2, (0, 0, 2)), (3, (0, 0, 5)), (4, (0, 4, 0)), (5, (0, 5, 0))], [(2, 0, 0)], [(0, 0), (1, 1), (2, 2), (5, 5), (0, 9), (0, 1)], [], [], []), ((3000000000000000000000, [], []), (0, [], []), (0, [], [])))
def nxm_bolder_6_5 : ab_ND := (48, ([(0, (2, 0, 0)), (1, (0, 0, 1)), (2, (0, 0, 1)), (3, (0, 0, 5)), (4, (0, 4, 0)), (5, (0, 5, 0))], [(2, 0, 0)], [(0, 0), (1, 1), (1, 1), (5, 5), (0, 9), (0, 1)], [], [], []), ((4000000000000000000000, [], []), (0, [], []), (0, [], [])))
def nxm_bolder_6_6 : ab_ND := (48, ([(0, (2, 0, 0)), (1, (0, 0, 1)), (2, (0, 0, 0)), (3, (0, 0, 5)), (4, (0, 4, 0)), (5, (0, 5, 0))], [(2, 0, 0)], [(0, 0), (1, 1), (0, 0), (5, 5), (0, 9), (0, 1)], [], [], []), ((5000000000000000000000, [], []), (0, [], []), (0, [], [])))
def nxm_bolder_6_7 : ab_ND := (48, ([(0, (2, 0, 0)), (1, (0, 0, 0)), (2, (0, 0, 2)), (3, (0, 0, 5)), (4, (0, 4, 0)), (5, (0, 5, 0))], [(2, 0, 0)], [(0, 0), (0, 0), (2, 2), (5, 5), (0, 9), (0, 1)], [], [], []), ((6000000000000000000000, [], []), (0, [], []), (0, [], [])))
def nxm_bolder_6_8 : ab_ND := (48, ([(0, (2, 0, 0)), (1, (0, 0, 0)), (2, (0, 0, 1)), (3, (0, 0, 5)), (4, (0, 4, 0)), (5, (0, 5, 0))], [(2, 0, 0)], [(0, 0), (0, 0), (1, 1), (5, 5), (0, 9), (0, 1)], [], [], []), ((7000000000000000000000, [], []), (0, [], []), (0, [], [])))
def nxm_bolder_6_9 : ab_ND := (48, ([(0, (2, 0, 0)), (1, (0, 0, 0)), (2, (0, 0, 0)), (3, (0, 0, 5)), (4, (0, 4, 0)), (5, (0, 5, 0))], [(2, 0, 0)], [(0, 0), (0, 0), (0, 0), (5, 5), (0, 9), (0, 1)], [], [], []), ((8000000000000000000000, [], []), (0, [], []), (0, [], [])))
def nxn_bolder_6 : List ab_ND := [nxm_bolder_6_0, nxm_bolder_6_1, nxm_bolder_6_2, nxm_bolder_6_3, nxm_bolder_6_4, nxm_bolder_6_5, nxm_bolder_6_6, nxm_bolder_6_7, nxm_bolder_6_8, nxm_bolder_6_9]
def nxk_bolder_6 : ab_KS := [(136, 0, le_736), (81, 0, le_737), (55, 0, le_738), (138, 1, le_747), (138, 1, le_753), (138, 1, le_762), (138, 1, le_766), (138, 1, le_768), (138, 1, le_776), (138, 1, le_780), (138, 1, le_782), (193, 0, le_786), (193, 0, le_787), (193, 0, le_789), (193, 0, le_790), (193, 0, le_792), (193, 0, le_793), (193, 0, le_795), (193, 0, le_796), (193, 0, le_798), (193, 0, le_799), (193, 0, le_801), (193, 0, le_802), (193, 0, le_804), (193, 0, le_805), (193, 0, le_815), (193, 0, le_816), (193, 0, le_817), (193, 0, le_818), (193, 0, le_819), (193, 0, le_820), (193, 0, le_827), (193, 0, le_828), (193, 0, le_829), (193, 0, le_830), (193, 0, le_831), (193, 0, le_832), (138, 1, le_840), (193, 0, le_841), (193, 0, le_842), (193, 0, le_847), (193, 0, le_848), (193, 0, le_867), (193, 0, le_868), (193, 0, le_1005), (193, 0, le_1006), (193, 0, le_1053), (193, 0, le_1054), (137, 2, le_1101), (137, 2, le_1102), (137, 2, le_1103), (137, 2, le_1104), (137, 2, le_1105), (137, 2, le_1106), (137, 2, le_1107), (137, 2, le_1108), (137, 2, le_1109), (137, 2, le_1110), (193, 0, le_1111), (193, 0, le_1112), (193, 0, le_1113), (193, 0, le_1114), (193, 0, le_1115), (193, 0, le_1116), (193, 0, le_1117), (193, 0, le_1118), (193, 0, le_1119), (193, 0, le_1120), (193, 0, le_1121), (193, 0, le_1122), (193, 0, le_1123), (193, 0, le_1124), (193, 0, le_1125), (193, 0, le_1126), (193, 0, le_1127), (193, 0, le_1128), (193, 0, le_1129), (193, 0, le_1130), (193, 0, le_1131), (193, 0, le_1132), (193, 0, le_1133), (193, 0, le_1134), (193, 0, le_1135), (193, 0, le_1136), (193, 0, le_1137), (193, 0, le_1138), (193, 0, le_1139), (193, 0, le_1140), (193, 0, le_1141), (193, 0, le_1142), (193, 0, le_1143), (193, 0, le_1144), (193, 0, le_1145), (193, 0, le_1146), (193, 0, le_1147), (193, 0, le_1148), (193, 0, le_1149), (193, 0, le_1150), (193, 0, le_1151), (193, 0, le_1152), (193, 0, le_1153), (193, 0, le_1154), (193, 0, le_1155), (193, 0, le_1156), (193, 0, le_1157), (193, 0, le_1158), (193, 0, le_1159), (193, 0, le_1160), (193, 0, le_1161), (193, 0, le_1162), (193, 0, le_1163), (193, 0, le_1164), (193, 0, le_1165), (193, 0, le_1166)]
theorem nxc_bolder_6_0 : ab_cn vwCl nn_T nn_C nn_sh nn_MT (nn_KI1.map (fun x => x.1)) (nn_KJ1.map (fun x => x.1)) (nn_PF1.map (fun x => x.1)) nn_kd (nn_PS1.map (fun x => x.1)) (nn_PM1.map (fun x => x.1)) nxk_bolder_6 3 0 nn_dt200 6 nxd_bolder_6.2.1.length nxd_bolder_6.2.2.2.2 2 [] [37, 47, 48] [(47, [(0, 3, 0, 0), (0, 1, 0, 0), (0, 2, 0, 0)]), (48, [(0, 4, 0, 0), (0, 5, 0, 0)])] [nxe_bolder_6_0, nxe_bolder_6_1, nxe_bolder_6_2, nxe_bolder_6_3, nxe_bolder_6_4, nxe_bolder_6_5, nxe_bolder_6_6, nxe_bolder_6_7] nxn_bolder_6 21 nxm_bolder_6_0 = true := by decide +kernel
theorem nxc_bolder_6_1 : ab_cn vwCl nn_T nn_C nn_sh nn_MT (nn_KI1.map (fun x => x.1)) (nn_KJ1.map (fun x => x.1)) (nn_PF1.map (fun x => x.1)) nn_kd (nn_PS1.map (fun x => x.1)) (nn_PM1.map (fun x => x.1)) nxk_bolder_6 3 0 nn_dt200 6 nxd_bolder_6.2.1.length nxd_bolder_6.2.2.2.2 2 [] [37, 47, 48] [(47, [(0, 3, 0, 0), (0, 1, 0, 0), (0, 2, 0, 0)]), (48, [(0, 4, 0, 0), (0, 5, 0, 0)])] [nxe_bolder_6_0, nxe_bolder_6_1, nxe_bolder_6_2, nxe_bolder_6_3, nxe_bolder_6_4, nxe_bolder_6_5, nxe_bolder_6_6, nxe_bolder_6_7] nxn_bolder_6 21 nxm_bolder_6_1 = true := by decide +kernel
theorem nxc_bolder_6_2 : ab_cn vwCl nn_T nn_C nn_sh nn_MT (nn_KI1.map (fun x => x.1)) (nn_KJ1.map (fun x => x.1)) (nn_PF1.map (fun x => x.1)) nn_kd (nn_PS1.map (fun x => x.1)) (nn_PM1.map (fun x => x.1)) nxk_bolder_6 3 0 nn_dt200 6 nxd_bolder_6.2.1.length nxd_bolder_6.2.2.2.2 2 [] [37, 47, 48] [(47, [(0, 3, 0, 0), (0, 1, 0, 0), (0, 2, 0, 0)]), (48, [(0, 4, 0, 0), (0, 5, 0, 0)])] [nxe_bolder_6_0, nxe_bolder_6_1, nxe_bolder_6_2, nxe_bolder_6_3, nxe_bolder_6_4, nxe_bolder_6_5, nxe_bolder_6_6, nxe_bolder_6_7] nxn_bolder_6 21 nxm_bolder_6_2 = true := by decide +kernel
theorem nxc_bolder_6_3 : ab_cn vwCl nn_T nn_C nn_sh nn_MT (nn_KI1.map (fun x => x.1)) (nn_KJ1.map (fun x => x.1)) (nn_PF1.map (fun x => x.1)) nn_kd (nn_PS1.map (fun x => x.1)) (nn_PM1.map (fun x => x.1)) nxk_bolder_6 3 0 nn_dt200 6 nxd_bolder_6.2.1.length nxd_bolder_6.2.2.2.2 2 [] [37, 47, 48] [(47, [(0, 3, 0, 0), (0, 1, 0, 0), (0, 2, 0, 0)]), (48, [(0, 4, 0, 0), (0, 5, 0, 0)])] [nxe_bolder_6_0, nxe_bolder_6_1, nxe_bolder_6_2, nxe_bolder_6_3, nxe_bolder_6_4, nxe_bolder_6_5, nxe_bolder_6_6, nxe_bolder_6_7] nxn_bolder_6 21 nxm_bolder_6_3 = true := by decide +kernel
theorem nxc_bolder_6_4 : ab_cn vwCl nn_T nn_C nn_sh nn_MT (nn_KI1.map (fun x => x.1)) (nn_KJ1.map (fun x => x.1)) (nn_PF1.map (fun x => x.1)) nn_kd (nn_PS1.map (fun x => x.1)) (nn_PM1.map (fun x => x.1)) nxk_bolder_6 3 0 nn_dt200 6 nxd_bolder_6.2.1.length nxd_bolder_6.2.2.2.2 2 [] [37, 47, 48] [(47, [(0, 3, 0, 0), (0, 1, 0, 0), (0, 2, 0, 0)]), (48, [(0, 4, 0, 0), (0, 5, 0, 0)])] [nxe_bolder_6_0, nxe_bolder_6_1, nxe_bolder_6_2, nxe_bolder_6_3, nxe_bolder_6_4, nxe_bolder_6_5, nxe_bolder_6_6, nxe_bolder_6_7] nxn_bolder_6 21 nxm_bolder_6_4 = true := by decide +kernel
theorem nxc_bolder_6_5 : ab_cn vwCl nn_T nn_C nn_sh nn_MT (nn_KI1.map (fun x => x.1)) (nn_KJ1.map (fun x => x.1)) (nn_PF1.map (fun x => x.1)) nn_kd (nn_PS1.map (fun x => x.1)) (nn_PM1.map (fun x => x.1)) nxk_bolder_6 3 0 nn_dt200 6 nxd_bolder_6.2.1.length nxd_bolder_6.2.2.2.2 2 [] [37, 47, 48] [(47, [(0, 3, 0, 0), (0, 1, 0, 0), (0, 2, 0, 0)]), (48, [(0, 4, 0, 0), (0, 5, 0, 0)])] [nxe_bolder_6_0, nxe_bolder_6_1, nxe_bolder_6_2, nxe_bolder_6_3, nxe_bolder_6_4, nxe_bolder_6_5, nxe_bolder_6_6, nxe_bolder_6_7] nxn_bolder_6 21 nxm_bolder_6_5 = true := by decide +kernel
theorem nxc_bolder_6_6 : ab_cn vwCl nn_T nn_C nn_sh nn_MT (nn_KI1.map (fun x => x.1)) (nn_KJ1.map (fun x => x.1)) (nn_PF1.map (fun x => x.1)) nn_kd (nn_PS1.map (fun x => x.1)) (nn_PM1.map (fun x => x.1)) nxk_bolder_6 3 0 nn_dt200 6 nxd_bolder_6.2.1.length nxd_bolder_6.2.2.2.2 2 [] [37, 47, 48] [(47, [(0, 3, 0, 0), (0, 1, 0, 0), (0, 2, 0, 0)]), (48, [(0, 4, 0, 0), (0, 5, 0, 0)])] [nxe_bolder_6_0, nxe_bolder_6_1, nxe_bolder_6_2, nxe_bolder_6_3, nxe_bolder_6_4, nxe_bolder_6_5, nxe_bolder_6_6, nxe_bolder_6_7] nxn_bolder_6 21 nxm_bolder_6_6 = true := by decide +kernel
theorem nxc_bolder_6_7 : ab_cn vwCl nn_T nn_C nn_sh nn_MT (nn_KI1.map (fun x => x.1)) (nn_KJ1.map (fun x => x.1)) (nn_PF1.map (fun x => x.1)) nn_kd (nn_PS1.map (fun x => x.1)) (nn_PM1.map (fun x => x.1)) nxk_bolder_6 3 0 nn_dt200 6 nxd_bolder_6.2.1.length nxd_bolder_6.2.2.2.2 2 [] [37, 47, 48] [(47, [(0, 3, 0, 0), (0, 1, 0, 0), (0, 2, 0, 0)]), (48, [(0, 4, 0, 0), (0, 5, 0, 0)])] [nxe_bolder_6_0, nxe_bolder_6_1, nxe_bolder_6_2, nxe_bolder_6_3, nxe_bolder_6_4, nxe_bolder_6_5, nxe_bolder_6_6, nxe_bolder_6_7] nxn_bolder_6 21 nxm_bolder_6_7 = true := by decide +kernel
theorem nxc_bolder_6_8 : ab_cn vwCl nn_T nn_C nn_sh nn_MT (nn_KI1.map (fun x => x.1)) (nn_KJ1.map (fun x => x.1)) (nn_PF1.map (fun x => x.1)) nn_kd (nn_PS1.map (fun x => x.1)) (nn_PM1.map (fun x => x.1)) nxk_bolder_6 3 0 nn_dt200 6 nxd_bolder_6.2.1.length nxd_bolder_6.2.2.2.2 2 [] [37, 47, 48] [(47, [(0, 3, 0, 0), (0, 1, 0, 0), (0, 2, 0, 0)]), (48, [(0, 4, 0, 0), (0, 5, 0, 0)])] [nxe_bolder_6_0, nxe_bolder_6_1, nxe_bolder_6_2, nxe_bolder_6_3, nxe_bolder_6_4, nxe_bolder_6_5, nxe_bolder_6_6, nxe_bolder_6_7] nxn_bolder_6 21 nxm_bolder_6_8 = true := by decide +kernel
theorem nxc_bolder_6_9 : ab_cn vwCl nn_T nn_C nn_sh nn_MT (nn_KI1.map (fun x => x.1)) (nn_KJ1.map (fun x => x.1)) (nn_PF1.map (fun x => x.1)) nn_kd (nn_PS1.map (fun x => x.1)) (nn_PM1.map (fun x => x.1)) nxk_bolder_6 3 0 nn_dt200 6 nxd_bolder_6.2.1.length nxd_bolder_6.2.2.2.2 2 [] [37, 47, 48] [(47, [(0, 3, 0, 0), (0, 1, 0, 0), (0, 2, 0, 0)]), (48, [(0, 4, 0, 0), (0, 5, 0, 0)])] [nxe_bolder_6_0, nxe_bolder_6_1, nxe_bolder_6_2, nxe_bolder_6_3, nxe_bolder_6_4, nxe_bolder_6_5, nxe_bolder_6_6, nxe_bolder_6_7] nxn_bolder_6 21 nxm_bolder_6_9 = true := by decide +kernel
theorem nxc_bolder_6 : nxn_bolder_6.all (ab_cn vwCl nn_T nn_C nn_sh nn_MT (nn_KI1.map (fun x => x.1)) (nn_KJ1.map (fun x => x.1)) (nn_PF1.map (fun x => x.1)) nn_kd (nn_PS1.map (fun x => x.1)) (nn_PM1.map (fun x => x.1)) nxk_bolder_6 3 0 nn_dt200 6 nxd_bolder_6.2.1.length nxd_bolder_6.2.2.2.2 2 [] [37, 47, 48] [(47, [(0, 3, 0, 0), (0, 1, 0, 0), (0, 2, 0, 0)]), (48, [(0, 4, 0, 0), (0, 5, 0, 0)])] [nxe_bolder_6_0, nxe_bolder_6_1, nxe_bolder_6_2, nxe_bolder_6_3, nxe_bolder_6_4, nxe_bolder_6_5, nxe_bolder_6_6, nxe_bolder_6_7] nxn_bolder_6 21) = true := List.all_eq_true.mpr (List.forall_mem_cons.mpr ⟨nxc_bolder_6_0, List.forall_mem_cons.mpr ⟨nxc_bolder_6_1, List.forall_mem_cons.mpr ⟨nxc_bolder_6_2, List.forall_mem_cons.mpr ⟨nxc_bolder_6_3, List.forall_mem_cons.mpr ⟨nxc_bolder_6_4, List.forall_mem_cons.mpr ⟨nxc_bolder_6_5, List.forall_mem_cons.mpr ⟨nxc_bolder_6_6, List.forall_mem_cons.mpr ⟨nxc_bolder_6_7, List.forall_mem_cons.mpr ⟨nxc_bolder_6_8, List.forall_mem_cons.mpr ⟨nxc_bolder_6_9, fun _ h => absurd h List.not_mem_nil⟩⟩⟩⟩⟩⟩⟩⟩⟩⟩)
set_option maxHeartbeats 4000000 in
theorem nxt_bolder_6 (l : Launch) (htr : l.stackTraces = false) (cy : Nat → ClassId) (ad wr cr : Nat → Nat) (D : va_G) (hinj : nn_inj ad) : nx_H l cy ad wr cr D (200, 3, nxd_bolder_6, nxo_bolder_6) := by
  refine nx_holdW (mr := (⟨"NameNotes", "bolder", "(IIIII)J"⟩, prog_1_method_37_code, 6, (Option.some Jvm.ClassFile.FieldType.long), 5, true, 2)) (dt := nn_dt200) (KS := nxk_bolder_6) htr hinj rfl rfl (by decide +kernel) nn_KI1_ok nn_KJ1_ok nn_PF1_ok nn_PS1_ok nn_PM1_ok (List.forall_mem_cons.mpr ⟨lf_736 l cy ad wr cr D hinj, List.forall_mem_cons.mpr ⟨lf_737 l cy ad wr cr D hinj, List.forall_mem_cons.mpr ⟨lf_738 l cy ad wr cr D hinj, List.forall_mem_cons.mpr ⟨lf_747 l cy ad wr cr D hinj, List.forall_mem_cons.mpr ⟨lf_753 l cy ad wr cr D hinj, List.forall_mem_cons.mpr ⟨lf_762 l cy ad wr cr D hinj, List.forall_mem_cons.mpr ⟨lf_766 l cy ad wr cr D hinj, List.forall_mem_cons.mpr ⟨lf_768 l cy ad wr cr D hinj, List.forall_mem_cons.mpr ⟨lf_776 l cy ad wr cr D hinj, List.forall_mem_cons.mpr ⟨lf_780 l cy ad wr cr D hinj, List.forall_mem_cons.mpr ⟨lf_782 l cy ad wr cr D hinj, List.forall_mem_cons.mpr ⟨lf_786 l cy ad wr cr D hinj, List.forall_mem_cons.mpr ⟨lf_787 l cy ad wr cr D hinj, List.forall_mem_cons.mpr ⟨lf_789 l cy ad wr cr D hinj, List.forall_mem_cons.mpr ⟨lf_790 l cy ad wr cr D hinj, List.forall_mem_cons.mpr ⟨lf_792 l cy ad wr cr D hinj, List.forall_mem_cons.mpr ⟨lf_793 l cy ad wr cr D hinj, List.forall_mem_cons.mpr ⟨lf_795 l cy ad wr cr D hinj, List.forall_mem_cons.mpr ⟨lf_796 l cy ad wr cr D hinj, List.forall_mem_cons.mpr ⟨lf_798 l cy ad wr cr D hinj, List.forall_mem_cons.mpr ⟨lf_799 l cy ad wr cr D hinj, List.forall_mem_cons.mpr ⟨lf_801 l cy ad wr cr D hinj, List.forall_mem_cons.mpr ⟨lf_802 l cy ad wr cr D hinj, List.forall_mem_cons.mpr ⟨lf_804 l cy ad wr cr D hinj, List.forall_mem_cons.mpr ⟨lf_805 l cy ad wr cr D hinj, List.forall_mem_cons.mpr ⟨lf_815 l cy ad wr cr D hinj, List.forall_mem_cons.mpr ⟨lf_816 l cy ad wr cr D hinj, List.forall_mem_cons.mpr ⟨lf_817 l cy ad wr cr D hinj, List.forall_mem_cons.mpr ⟨lf_818 l cy ad wr cr D hinj, List.forall_mem_cons.mpr ⟨lf_819 l cy ad wr cr D hinj, List.forall_mem_cons.mpr ⟨lf_820 l cy ad wr cr D hinj, List.forall_mem_cons.mpr ⟨lf_827 l cy ad wr cr D hinj, List.forall_mem_cons.mpr ⟨lf_828 l cy ad wr cr D hinj, List.forall_mem_cons.mpr ⟨lf_829 l cy ad wr cr D hinj, List.forall_mem_cons.mpr ⟨lf_830 l cy ad wr cr D hinj, List.forall_mem_cons.mpr ⟨lf_831 l cy ad wr cr D hinj, List.forall_mem_cons.mpr ⟨lf_832 l cy ad wr cr D hinj, List.forall_mem_cons.mpr ⟨lf_840 l cy ad wr cr D hinj, List.forall_mem_cons.mpr ⟨lf_841 l cy ad wr cr D hinj, List.forall_mem_cons.mpr ⟨lf_842 l cy ad wr cr D hinj, List.forall_mem_cons.mpr ⟨lf_847 l cy ad wr cr D hinj, List.forall_mem_cons.mpr ⟨lf_848 l cy ad wr cr D hinj, List.forall_mem_cons.mpr ⟨lf_867 l cy ad wr cr D hinj, List.forall_mem_cons.mpr ⟨lf_868 l cy ad wr cr D hinj, List.forall_mem_cons.mpr ⟨lf_1005 l cy ad wr cr D hinj, List.forall_mem_cons.mpr ⟨lf_1006 l cy ad wr cr D hinj, List.forall_mem_cons.mpr ⟨lf_1053 l cy ad wr cr D hinj, List.forall_mem_cons.mpr ⟨lf_1054 l cy ad wr cr D hinj, List.forall_mem_cons.mpr ⟨lf_1101 l cy ad wr cr D hinj, List.forall_mem_cons.mpr ⟨lf_1102 l cy ad wr cr D hinj, List.forall_mem_cons.mpr ⟨lf_1103 l cy ad wr cr D hinj, List.forall_mem_cons.mpr ⟨lf_1104 l cy ad wr cr D hinj, List.forall_mem_cons.mpr ⟨lf_1105 l cy ad wr cr D hinj, List.forall_mem_cons.mpr ⟨lf_1106 l cy ad wr cr D hinj, List.forall_mem_cons.mpr ⟨lf_1107 l cy ad wr cr D hinj, List.forall_mem_cons.mpr ⟨lf_1108 l cy ad wr cr D hinj, List.forall_mem_cons.mpr ⟨lf_1109 l cy ad wr cr D hinj, List.forall_mem_cons.mpr ⟨lf_1110 l cy ad wr cr D hinj, List.forall_mem_cons.mpr ⟨lf_1111 l cy ad wr cr D hinj, List.forall_mem_cons.mpr ⟨lf_1112 l cy ad wr cr D hinj, List.forall_mem_cons.mpr ⟨lf_1113 l cy ad wr cr D hinj, List.forall_mem_cons.mpr ⟨lf_1114 l cy ad wr cr D hinj, List.forall_mem_cons.mpr ⟨lf_1115 l cy ad wr cr D hinj, List.forall_mem_cons.mpr ⟨lf_1116 l cy ad wr cr D hinj, List.forall_mem_cons.mpr ⟨lf_1117 l cy ad wr cr D hinj, List.forall_mem_cons.mpr ⟨lf_1118 l cy ad wr cr D hinj, List.forall_mem_cons.mpr ⟨lf_1119 l cy ad wr cr D hinj, List.forall_mem_cons.mpr ⟨lf_1120 l cy ad wr cr D hinj, List.forall_mem_cons.mpr ⟨lf_1121 l cy ad wr cr D hinj, List.forall_mem_cons.mpr ⟨lf_1122 l cy ad wr cr D hinj, List.forall_mem_cons.mpr ⟨lf_1123 l cy ad wr cr D hinj, List.forall_mem_cons.mpr ⟨lf_1124 l cy ad wr cr D hinj, List.forall_mem_cons.mpr ⟨lf_1125 l cy ad wr cr D hinj, List.forall_mem_cons.mpr ⟨lf_1126 l cy ad wr cr D hinj, List.forall_mem_cons.mpr ⟨lf_1127 l cy ad wr cr D hinj, List.forall_mem_cons.mpr ⟨lf_1128 l cy ad wr cr D hinj, List.forall_mem_cons.mpr ⟨lf_1129 l cy ad wr cr D hinj, List.forall_mem_cons.mpr ⟨lf_1130 l cy ad wr cr D hinj, List.forall_mem_cons.mpr ⟨lf_1131 l cy ad wr cr D hinj, List.forall_mem_cons.mpr ⟨lf_1132 l cy ad wr cr D hinj, List.forall_mem_cons.mpr ⟨lf_1133 l cy ad wr cr D hinj, List.forall_mem_cons.mpr ⟨lf_1134 l cy ad wr cr D hinj, List.forall_mem_cons.mpr ⟨lf_1135 l cy ad wr cr D hinj, List.forall_mem_cons.mpr ⟨lf_1136 l cy ad wr cr D hinj, List.forall_mem_cons.mpr ⟨lf_1137 l cy ad wr cr D hinj, List.forall_mem_cons.mpr ⟨lf_1138 l cy ad wr cr D hinj, List.forall_mem_cons.mpr ⟨lf_1139 l cy ad wr cr D hinj, List.forall_mem_cons.mpr ⟨lf_1140 l cy ad wr cr D hinj, List.forall_mem_cons.mpr ⟨lf_1141 l cy ad wr cr D hinj, List.forall_mem_cons.mpr ⟨lf_1142 l cy ad wr cr D hinj, List.forall_mem_cons.mpr ⟨lf_1143 l cy ad wr cr D hinj, List.forall_mem_cons.mpr ⟨lf_1144 l cy ad wr cr D hinj, List.forall_mem_cons.mpr ⟨lf_1145 l cy ad wr cr D hinj, List.forall_mem_cons.mpr ⟨lf_1146 l cy ad wr cr D hinj, List.forall_mem_cons.mpr ⟨lf_1147 l cy ad wr cr D hinj, List.forall_mem_cons.mpr ⟨lf_1148 l cy ad wr cr D hinj, List.forall_mem_cons.mpr ⟨lf_1149 l cy ad wr cr D hinj, List.forall_mem_cons.mpr ⟨lf_1150 l cy ad wr cr D hinj, List.forall_mem_cons.mpr ⟨lf_1151 l cy ad wr cr D hinj, List.forall_mem_cons.mpr ⟨lf_1152 l cy ad wr cr D hinj, List.forall_mem_cons.mpr ⟨lf_1153 l cy ad wr cr D hinj, List.forall_mem_cons.mpr ⟨lf_1154 l cy ad wr cr D hinj, List.forall_mem_cons.mpr ⟨lf_1155 l cy ad wr cr D hinj, List.forall_mem_cons.mpr ⟨lf_1156 l cy ad wr cr D hinj, List.forall_mem_cons.mpr ⟨lf_1157 l cy ad wr cr D hinj, List.forall_mem_cons.mpr ⟨lf_1158 l cy ad wr cr D hinj, List.forall_mem_cons.mpr ⟨lf_1159 l cy ad wr cr D hinj, List.forall_mem_cons.mpr ⟨lf_1160 l cy ad wr cr D hinj, List.forall_mem_cons.mpr ⟨lf_1161 l cy ad wr cr D hinj, List.forall_mem_cons.mpr ⟨lf_1162 l cy ad wr cr D hinj, List.forall_mem_cons.mpr ⟨lf_1163 l cy ad wr cr D hinj, List.forall_mem_cons.mpr ⟨lf_1164 l cy ad wr cr D hinj, List.forall_mem_cons.mpr ⟨lf_1165 l cy ad wr cr D hinj, List.forall_mem_cons.mpr ⟨lf_1166 l cy ad wr cr D hinj, fun _ h => absurd h List.not_mem_nil⟩⟩⟩⟩⟩⟩⟩⟩⟩⟩⟩⟩⟩⟩⟩⟩⟩⟩⟩⟩⟩⟩⟩⟩⟩⟩⟩⟩⟩⟩⟩⟩⟩⟩⟩⟩⟩⟩⟩⟩⟩⟩⟩⟩⟩⟩⟩⟩⟩⟩⟩⟩⟩⟩⟩⟩⟩⟩⟩⟩⟩⟩⟩⟩⟩⟩⟩⟩⟩⟩⟩⟩⟩⟩⟩⟩⟩⟩⟩⟩⟩⟩⟩⟩⟩⟩⟩⟩⟩⟩⟩⟩⟩⟩⟩⟩⟩⟩⟩⟩⟩⟩⟩⟩⟩⟩⟩⟩⟩⟩⟩⟩⟩⟩) ?_
  intro p e s m below meth c R Q ρ σ hE hK hsy hP hRT hTH
  refine ab_entry (lev := 3) (sp := []) (HD := [37, 47, 48]) (HN := [(47, [(0, 3, 0, 0), (0, 1, 0, 0), (0, 2, 0, 0)]), (48, [(0, 4, 0, 0), (0, 5, 0, 0)])]) (EX := [nxe_bolder_6_0, nxe_bolder_6_1, nxe_bolder_6_2, nxe_bolder_6_3, nxe_bolder_6_4, nxe_bolder_6_5, nxe_bolder_6_6, nxe_bolder_6_7]) (NS := nxn_bolder_6) (fuel := 21) (mu := ((9000000000000000000000, [], []), (0, [], []), (0, [], []))) hE (by decide +kernel) hK hsy hP List.mem_cons_self hRT ?_ (fun nd hnd => List.all_eq_true.mp nxc_bolder_6 nd hnd)
  intro nd hnd ρ2 σ2 H locs ls st hG
  rcases List.mem_cons.mp hnd with rfl | hnd
  · exact hTH 37 _ ρ2 σ2 H locs ls st 213 "no such ones" 5 (by decide +kernel) rfl (by decide +kernel) (show decode prog_1_method_37_code 37 = .ok (.new 211, 3) by decide +kernel) (show decode prog_1_method_37_code 40 = .ok (.dup, 1) by decide +kernel) (Or.inl ⟨(show decode prog_1_method_37_code 41 = .ok (.ldc 213, 2) by decide +kernel), (show decode prog_1_method_37_code 43 = .ok (.invokespecial 215, 3) by decide +kernel), (show decode prog_1_method_37_code 46 = .ok (.athrow, 1) by decide +kernel)⟩) hG
  rcases List.mem_cons.mp hnd with rfl | hnd
  · exact hTH 37 _ ρ2 σ2 H locs ls st 213 "no such ones" 5 (by decide +kernel) rfl (by decide +kernel) (show decode prog_1_method_37_code 37 = .ok (.new 211, 3) by decide +kernel) (show decode prog_1_method_37_code 40 = .ok (.dup, 1) by decide +kernel) (Or.inl ⟨(show decode prog_1_method_37_code 41 = .ok (.ldc 213, 2) by decide +kernel), (show decode prog_1_method_37_code 43 = .ok (.invokespecial 215, 3) by decide +kernel), (show decode prog_1_method_37_code 46 = .ok (.athrow, 1) by decide +kernel)⟩) hG
  rcases List.mem_cons.mp hnd with rfl | hnd
  · exact hTH 37 _ ρ2 σ2 H locs ls st 213 "no such ones" 5 (by decide +kernel) rfl (by decide +kernel) (show decode prog_1_method_37_code 37 = .ok (.new 211, 3) by decide +kernel) (show decode prog_1_method_37_code 40 = .ok (.dup, 1) by decide +kernel) (Or.inl ⟨(show decode prog_1_method_37_code 41 = .ok (.ldc 213, 2) by decide +kernel), (show decode prog_1_method_37_code 43 = .ok (.invokespecial 215, 3) by decide +kernel), (show decode prog_1_method_37_code 46 = .ok (.athrow, 1) by decide +kernel)⟩) hG
  rcases List.mem_cons.mp hnd with rfl | hnd
  · exact hTH 37 _ ρ2 σ2 H locs ls st 213 "no such ones" 5 (by decide +kernel) rfl (by decide +kernel) (show decode prog_1_method_37_code 37 = .ok (.new 211, 3) by decide +kernel) (show decode prog_1_method_37_code 40 = .ok (.dup, 1) by decide +kernel) (Or.inl ⟨(show decode prog_1_method_37_code 41 = .ok (.ldc 213, 2) by decide +kernel), (show decode prog_1_method_37_code 43 = .ok (.invokespecial 215, 3) by decide +kernel), (show decode prog_1_method_37_code 46 = .ok (.athrow, 1) by decide +kernel)⟩) hG
  rcases List.mem_cons.mp hnd with rfl | hnd
  · exact hTH 37 _ ρ2 σ2 H locs ls st 213 "no such ones" 5 (by decide +kernel) rfl (by decide +kernel) (show decode prog_1_method_37_code 37 = .ok (.new 211, 3) by decide +kernel) (show decode prog_1_method_37_code 40 = .ok (.dup, 1) by decide +kernel) (Or.inl ⟨(show decode prog_1_method_37_code 41 = .ok (.ldc 213, 2) by decide +kernel), (show decode prog_1_method_37_code 43 = .ok (.invokespecial 215, 3) by decide +kernel), (show decode prog_1_method_37_code 46 = .ok (.athrow, 1) by decide +kernel)⟩) hG
  rcases List.mem_cons.mp hnd with rfl | hnd
  · exact hTH 37 _ ρ2 σ2 H locs ls st 213 "no such ones" 5 (by decide +kernel) rfl (by decide +kernel) (show decode prog_1_method_37_code 37 = .ok (.new 211, 3) by decide +kernel) (show decode prog_1_method_37_code 40 = .ok (.dup, 1) by decide +kernel) (Or.inl ⟨(show decode prog_1_method_37_code 41 = .ok (.ldc 213, 2) by decide +kernel), (show decode prog_1_method_37_code 43 = .ok (.invokespecial 215, 3) by decide +kernel), (show decode prog_1_method_37_code 46 = .ok (.athrow, 1) by decide +kernel)⟩) hG
  rcases List.mem_cons.mp hnd with rfl | hnd
  · exact hTH 37 _ ρ2 σ2 H locs ls st 213 "no such ones" 5 (by decide +kernel) rfl (by decide +kernel) (show decode prog_1_method_37_code 37 = .ok (.new 211, 3) by decide +kernel) (show decode prog_1_method_37_code 40 = .ok (.dup, 1) by decide +kernel) (Or.inl ⟨(show decode prog_1_method_37_code 41 = .ok (.ldc 213, 2) by decide +kernel), (show decode prog_1_method_37_code 43 = .ok (.invokespecial 215, 3) by decide +kernel), (show decode prog_1_method_37_code 46 = .ok (.athrow, 1) by decide +kernel)⟩) hG
  rcases List.mem_cons.mp hnd with rfl | hnd
  · exact hTH 37 _ ρ2 σ2 H locs ls st 213 "no such ones" 5 (by decide +kernel) rfl (by decide +kernel) (show decode prog_1_method_37_code 37 = .ok (.new 211, 3) by decide +kernel) (show decode prog_1_method_37_code 40 = .ok (.dup, 1) by decide +kernel) (Or.inl ⟨(show decode prog_1_method_37_code 41 = .ok (.ldc 213, 2) by decide +kernel), (show decode prog_1_method_37_code 43 = .ok (.invokespecial 215, 3) by decide +kernel), (show decode prog_1_method_37_code 46 = .ok (.athrow, 1) by decide +kernel)⟩) hG
  exact absurd hnd List.not_mem_nil
/-- NameNotes.bolder_7 -/
def nxd_bolder_7 : ab_CN := ([(2, 0, 0), (0, 1, 0), (0, 2, 0), (0, 3, 0), (0, 4, 0), (0, 5, 0)], [(0, 0), ((-2147483648), 2147483647), ((-2147483648), 2147483647), (6, 6), ((-2147483648), 2147483647), ((-2147483648), 2147483647)], [], [], [([(1, 0, 1)], [(0, 0), (2, 2), (2, 2), (6, 6), (9, 9), (1, 1)], [], [], [(90, 1000000), (91, 1000000)]),
    ([(1, 0, 1)], [(0, 0), (2, 2), (2, 2), (6, 6), (9, 9), (0, 0)], [], [], [(90, 1000000), (91, 1000000)]),
    ([(1, 0, 9)], [(0, 0), (2, 2), (2, 2), (6, 6), (8, 8), (1, 1)], [], [], [(90, 1000000), (91, 1000000)]),
    ([(1, 0, 8)], [(0, 0), (2, 2), (2, 2), (6, 6), (8, 8), (0, 0)], [], [], [(90, 1000000), (91, 1000000)]),
    ([(1, 0, 9)], [(0, 0), (2, 2), (2, 2), (6, 6), (7, 7), (1, 1)], [], [], [(90, 1000000), (91, 1000000)]),
    ([(1, 0, 7)], [(0, 0), (2, 2), (2, 2), (6, 6), (7, 7), (0, 0)], [], [], [(90, 1000000), (91, 1000000)]),
    ([(1, 0, 3)], [(0, 0), (2, 2), (2, 2), (6, 6), (6, 6), (1, 1)], [], [], [(90, 1000000), (91, 1000000)]),
    ([(1, 0, 2)], [(0, 0), (2, 2), (2, 2), (6, 6), (6, 6), (0, 0)], [], [], [(90, 1000000), (91, 1000000)]),
    ([(1, 0, 3)], [(0, 0), (2, 2), (2, 2), (6, 6), (5, 5), (1, 1)], [], [], [(90, 1000000), (91, 1000000)]),
    ([(1, 0, 2)], [(0, 0), (2, 2), (2, 2), (6, 6), (5, 5), (0, 0)], [], [], [(90, 1000000), (91, 1000000)]),
    ([(1, 0, 3)], [(0, 0), (2, 2), (2, 2), (6, 6), (4, 4), (1, 1)], [], [], [(90, 1000000), (91, 1000000)]),
    ([(1, 0, 2)], [(0, 0), (2, 2), (2, 2), (6, 6), (4, 4), (0, 0)], [], [], [(90, 1000000), (91, 1000000)]),
    ([(1, 0, 3)], [(0, 0), (2, 2), (2, 2), (6, 6), (3, 3), (1, 1)], [], [], [(90, 1000000), (91, 1000000)]),
    ([(1, 0, 2)], [(0, 0), (2, 2), (2, 2), (6, 6), (3, 3), (0, 0)], [], [], [(90, 1000000), (91, 1000000)]),
    ([(1, 0, 3)], [(0, 0), (2, 2), (2, 2), (6, 6), (2, 2), (1, 1)], [], [], [(90, 1000000), (91, 1000000)]),
    ([(1, 0, 2)], [(0, 0), (2, 2), (2, 2), (6, 6), (2, 2), (0, 0)], [], [], [(90, 1000000), (91, 1000000)]),
    ([(1, 0, 3)], [(0, 0), (2, 2), (2, 2), (6, 6), (1, 1), (1, 1)], [], [], [(90, 1000000), (91, 1000000)]),
    ([(1, 0, 2)], [(0, 0), (2, 2), (2, 2), (6, 6), (1, 1), (0, 0)], [], [], [(90, 1000000), (91, 1000000)]),
    ([(1, 0, 3)], [(0, 0), (2, 2), (2, 2), (6, 6), (0, 0), (1, 1)], [], [], [(90, 1000000), (91, 1000000)]),
    ([(1, 0, 2)], [(0, 0), (2, 2), (2, 2), (6, 6), (0, 0), (0, 0)], [], [], [(90, 1000000), (91, 1000000)]),
    ([(1, 0, 1)], [(0, 0), (2, 2), (1, 1), (6, 6), (9, 9), (1, 1)], [], [], [(90, 1000000), (91, 1000000)]),
    ([(1, 0, 1)], [(0, 0), (2, 2), (1, 1), (6, 6), (9, 9), (0, 0)], [], [], [(90, 1000000), (91, 1000000)]),
    ([(1, 0, 27)], [(0, 0), (2, 2), (1, 1), (6, 6), (8, 8), (1, 1)], [], [], [(90, 1000000), (91, 1000000)]),
    ([(1, 0, 26)], [(0, 0), (2, 2), (1, 1), (6, 6), (8, 8), (0, 0)], [], [], [(90, 1000000), (91, 1000000)]),
    ([(1, 0, 27)], [(0, 0), (2, 2), (1, 1), (6, 6), (7, 7), (1, 1)], [], [], [(90, 1000000), (91, 1000000)]),
    ([(1, 0, 25)], [(0, 0), (2, 2), (1, 1), (6, 6), (7, 7), (0, 0)], [], [], [(90, 1000000), (91, 1000000)]),
    ([(1, 0, 9)], [(0, 0), (2, 2), (1, 1), (6, 6), (6, 6), (1, 1)], [], [], [(90, 1000000), (91, 1000000)]),
    ([(1, 0, 8)], [(0, 0), (2, 2), (1, 1), (6, 6), (6, 6), (0, 0)], [], [], [(90, 1000000), (91, 1000000)]),
    ([(1, 0, 9)], [(0, 0), (2, 2), (1, 1), (6, 6), (5, 5), (1, 1)], [], [], [(90, 1000000), (91, 1000000)]),
    ([(1, 0, 8)], [(0, 0), (2, 2), (1, 1), (6, 6), (5, 5), (0, 0)], [], [], [(90, 1000000), (91, 1000000)]),
    ([(1, 0, 9)], [(0, 0), (2, 2), (1, 1), (6, 6), (4, 4), (1, 1)], [], [], [(90, 1000000), (91, 1000000)]),
    ([(1, 0, 8)], [(0, 0), (2, 2), (1, 1), (6, 6), (4, 4), (0, 0)], [], [], [(90, 1000000), (91, 1000000)]),
    ([(1, 0, 9)], [(0, 0), (2, 2), (1, 1), (6, 6), (3, 3), (1, 1)], [], [], [(90, 1000000), (91, 1000000)]),
    ([(1, 0, 8)], [(0, 0), (2, 2), (1, 1), (6, 6), (3, 3), (0, 0)], [], [], [(90, 1000000), (91, 1000000)]),
    ([(1, 0, 9)], [(0, 0), (2, 2), (1, 1), (6, 6), (2, 2), (1, 1)], [], [], [(90, 1000000), (91, 1000000)]),
    ([(1, 0, 8)], [(0, 0), (2, 2), (1, 1), (6, 6), (2, 2), (0, 0)], [], [], [(90, 1000000), (91, 1000000)]),
    ([(1, 0, 9)], [(0, 0), (2, 2), (1, 1), (6, 6), (1, 1), (1, 1)], [], [], [(90, 1000000), (91, 1000000)]),
    ([(1, 0, 8)], [(0, 0), (2, 2), (1, 1), (6, 6), (1, 1), (0, 0)], [], [], [(90, 1000000), (91, 1000000)]),
    ([(1, 0, 9)], [(0, 0), (2, 2), (1, 1), (6, 6), (0, 0), (1, 1)], [], [], [(90, 1000000), (91, 1000000)]),
    ([(1, 0, 8)], [(0, 0), (2, 2), (1, 1), (6, 6), (0, 0), (0, 0)], [], [], [(90, 1000000), (91, 1000000)]),
    ([(1, 0, 1)], [(0, 0), (2, 2), (0, 0), (6, 6), (9, 9), (1, 1)], [], [], [(90, 1000000), (91, 1000000)]),
    ([(1, 0, 1)], [(0, 0), (2, 2), (0, 0), (6, 6), (9, 9), (0, 0)], [], [], [(90, 1000000), (91, 1000000)]),
    ([(1, 0, 81)], [(0, 0), (2, 2), (0, 0), (6, 6), (8, 8), (1, 1)], [], [], [(90, 1000000), (91, 1000000)]),
    ([(1, 0, 80)], [(0, 0), (2, 2), (0, 0), (6, 6), (8, 8), (0, 0)], [], [], [(90, 1000000), (91, 1000000)]),
    ([(1, 0, 81)], [(0, 0), (2, 2), (0, 0), (6, 6), (7, 7), (1, 1)], [], [], [(90, 1000000), (91, 1000000)]),
    ([(1, 0, 79)], [(0, 0), (2, 2), (0, 0), (6, 6), (7, 7), (0, 0)], [], [], [(90, 1000000), (91, 1000000)]),
    ([(1, 0, 27)], [(0, 0), (2, 2), (0, 0), (6, 6), (6, 6), (1, 1)], [], [], [(90, 1000000), (91, 1000000)]),
    ([(1, 0, 26)], [(0, 0), (2, 2), (0, 0), (6, 6), (6, 6), (0, 0)], [], [], [(90, 1000000), (91, 1000000)]),
    ([(1, 0, 27)], [(0, 0), (2, 2), (0, 0), (6, 6), (5, 5), (1, 1)], [], [], [(90, 1000000), (91, 1000000)]),
    ([(1, 0, 26)], [(0, 0), (2, 2), (0, 0), (6, 6), (5, 5), (0, 0)], [], [], [(90, 1000000), (91, 1000000)]),
    ([(1, 0, 27)], [(0, 0), (2, 2), (0, 0), (6, 6), (4, 4), (1, 1)], [], [], [(90, 1000000), (91, 1000000)]),
    ([(1, 0, 26)], [(0, 0), (2, 2), (0, 0), (6, 6), (4, 4), (0, 0)], [], [], [(90, 1000000), (91, 1000000)]),
    ([(1, 0, 27)], [(0, 0), (2, 2), (0, 0), (6, 6), (3, 3), (1, 1)], [], [], [(90, 1000000), (91, 1000000)]),
    ([(1, 0, 26)], [(0, 0), (2, 2), (0, 0), (6, 6), (3, 3), (0, 0)], [], [], [(90, 1000000), (91, 1000000)]),
    ([(1, 0, 27)], [(0, 0), (2, 2), (0, 0), (6, 6), (2, 2), (1, 1)], [], [], [(90, 1000000), (91, 1000000)]),
    ([(1, 0, 26)], [(0, 0), (2, 2), (0, 0), (6, 6), (2, 2), (0, 0)], [], [], [(90, 1000000), (91, 1000000)]),
    ([(1, 0, 27)], [(0, 0), (2, 2), (0, 0), (6, 6), (1, 1), (1, 1)], [], [], [(90, 1000000), (91, 1000000)]),
    ([(1, 0, 26)], [(0, 0), (2, 2), (0, 0), (6, 6), (1, 1), (0, 0)], [], [], [(90, 1000000), (91, 1000000)]),
    ([(1, 0, 27)], [(0, 0), (2, 2), (0, 0), (6, 6), (0, 0), (1, 1)], [], [], [(90, 1000000), (91, 1000000)]),
    ([(1, 0, 26)], [(0, 0), (2, 2), (0, 0), (6, 6), (0, 0), (0, 0)], [], [], [(90, 1000000), (91, 1000000)]),
    ([(1, 0, 1)], [(0, 0), (1, 1), (2, 2), (6, 6), (9, 9), (1, 1)], [], [], [(90, 1000000), (91, 1000000)]),
    ([(1, 0, 1)], [(0, 0), (1, 1), (2, 2), (6, 6), (9, 9), (0, 0)], [], [], [(90, 1000000), (91, 1000000)]),
    ([(1, 0, 9)], [(0, 0), (1, 1), (2, 2), (6, 6), (8, 8), (1, 1)], [], [], [(90, 1000000), (91, 1000000)]),
    ([(1, 0, 8)], [(0, 0), (1, 1), (2, 2), (6, 6), (8, 8), (0, 0)], [], [], [(90, 1000000), (91, 1000000)]),
    ([(1, 0, 9)], [(0, 0), (1, 1), (2, 2), (6, 6), (7, 7), (1, 1)], [], [], [(90, 1000000), (91, 1000000)]),
    ([(1, 0, 7)], [(0, 0), (1, 1), (2, 2), (6, 6), (7, 7), (0, 0)], [], [], [(90, 1000000), (91, 1000000)]),
    ([(1, 0, 3)], [(0, 0), (1, 1), (2, 2), (6, 6), (6, 6), (1, 1)], [], [], [(90, 1000000), (91, 1000000)]),
    ([(1, 0, 2)], [(0, 0), (1, 1), (2, 2), (6, 6), (6, 6), (0, 0)], [], [], [(90, 1000000), (91, 1000000)]),
    ([(1, 0, 9)], [(0, 0), (1, 1), (2, 2), (6, 6), (5, 5), (1, 1)], [], [], [(90, 1000000), (91, 1000000)]),
    ([(1, 0, 5)], [(0, 0), (1, 1), (2, 2), (6, 6), (5, 5), (0, 0)], [], [], [(90, 1000000), (91, 1000000)]),
    ([(1, 0, 9)], [(0, 0), (1, 1), (2, 2), (6, 6), (4, 4), (1, 1)], [], [], [(90, 1000000), (91, 1000000)]),
    ([(1, 0, 4)], [(0, 0), (1, 1), (2, 2), (6, 6), (4, 4), (0, 0)], [], [], [(90, 1000000), (91, 1000000)]),
    ([(1, 0, 9)], [(0, 0), (1, 1), (2, 2), (6, 6), (3, 3), (1, 1)], [], [], [(90, 1000000), (91, 1000000)]),
    ([(1, 0, 4)], [(0, 0), (1, 1), (2, 2), (6, 6), (3, 3), (0, 0)], [], [], [(90, 1000000), (91, 1000000)]),
    ([(1, 0, 9)], [(0, 0), (1, 1), (2, 2), (6, 6), (2, 2), (1, 1)], [], [], [(90, 1000000), (91, 1000000)]),
    ([(1, 0, 4)], [(0, 0), (1, 1), (2, 2), (6, 6), (2, 2), (0, 0)], [], [], [(90, 1000000), (91, 1000000)]),
    ([(1, 0, 9)], [(0, 0), (1, 1), (2, 2), (6, 6), (1, 1), (1, 1)], [], [], [(90, 1000000), (91, 1000000)]),
    ([(1, 0, 4)], [(0, 0), (1, 1), (2, 2), (6, 6), (1, 1), (0, 0)], [], [], [(90, 1000000), (91, 1000000)]),
    ([(1, 0, 9)], [(0, 0), (1, 1), (2, 2), (6, 6), (0, 0), (1, 1)], [], [], [(90, 1000000), (91, 1000000)]),
    ([(1, 0, 4)], [(0, 0), (1, 1), (2, 2), (6, 6), (0, 0), (0, 0)], [], [], [(90, 1000000), (91, 1000000)]),
    ([(1, 0, 1)], [(0, 0), (1, 1), (1, 1), (6, 6), (9, 9), (1, 1)], [], [], [(90, 1000000), (91, 1000000)]),
    ([(1, 0, 1)], [(0, 0), (1, 1), (1, 1), (6, 6), (9, 9), (0, 0)], [], [], [(90, 1000000), (91, 1000000)]),
    ([(1, 0, 81)], [(0, 0), (1, 1), (1, 1), (6, 6), (8, 8), (1, 1)], [], [], [(90, 1000000), (91, 1000000)]),
    ([(1, 0, 76)], [(0, 0), (1, 1), (1, 1), (6, 6), (8, 8), (0, 0)], [], [], [(90, 1000000), (91, 1000000)]),
    ([(1, 0, 81)], [(0, 0), (1, 1), (1, 1), (6, 6), (7, 7), (1, 1)], [], [], [(90, 1000000), (91, 1000000)]),
    ([(1, 0, 71)], [(0, 0), (1, 1), (1, 1), (6, 6), (7, 7), (0, 0)], [], [], [(90, 1000000), (91, 1000000)]),
    ([(1, 0, 27)], [(0, 0), (1, 1), (1, 1), (6, 6), (6, 6), (1, 1)], [], [], [(90, 1000000), (91, 1000000)]),
    ([(1, 0, 22)], [(0, 0), (1, 1), (1, 1), (6, 6), (6, 6), (0, 0)], [], [], [(90, 1000000), (91, 1000000)]),
    ([(1, 0, 9)], [(0, 0), (1, 1), (1, 1), (6, 6), (5, 5), (1, 1)], [], [], [(90, 1000000), (91, 1000000)]),
    ([(1, 0, 7)], [(0, 0), (1, 1), (1, 1), (6, 6), (5, 5), (0, 0)], [], [], [(90, 1000000), (91, 1000000)]),
    ([(1, 0, 27)], [(0, 0), (1, 1), (1, 1), (6, 6), (4, 4), (1, 1)], [], [], [(90, 1000000), (91, 1000000)]),
    ([(1, 0, 20)], [(0, 0), (1, 1), (1, 1), (6, 6), (4, 4), (0, 0)], [], [], [(90, 1000000), (91, 1000000)]),
    ([(1, 0, 27)], [(0, 0), (1, 1), (1, 1), (6, 6), (3, 3), (1, 1)], [], [], [(90, 1000000), (91, 1000000)]),
    ([(1, 0, 20)], [(0, 0), (1, 1), (1, 1), (6, 6), (3, 3), (0, 0)], [], [], [(90, 1000000), (91, 1000000)]),
    ([(1, 0, 27)], [(0, 0), (1, 1), (1, 1), (6, 6), (2, 2), (1, 1)], [], [], [(90, 1000000), (91, 1000000)]),
    ([(1, 0, 20)], [(0, 0), (1, 1), (1, 1), (6, 6), (2, 2), (0, 0)], [], [], [(90, 1000000), (91, 1000000)]),
    ([(1, 0, 27)], [(0, 0), (1, 1), (1, 1), (6, 6), (1, 1), (1, 1)], [], [], [(90, 1000000), (91, 1000000)]),
    ([(1, 0, 20)], [(0, 0), (1, 1), (1, 1), (6, 6), (1, 1), (0, 0)], [], [], [(90, 1000000), (91, 1000000)]),
    ([(1, 0, 27)], [(0, 0), (1, 1), (1, 1), (6, 6), (0, 0), (1, 1)], [], [], [(90, 1000000), (91, 1000000)]),
    ([(1, 0, 20)], [(0, 0), (1, 1), (1, 1), (6, 6), (0, 0), (0, 0)], [], [], [(90, 1000000), (91, 1000000)]),
    ([(1, 0, 1)], [(0, 0), (1, 1), (0, 0), (6, 6), (9, 9), (1, 1)], [], [], [(90, 1000000), (91, 1000000)]),
    ([(1, 0, 1)], [(0, 0), (1, 1), (0, 0), (6, 6), (9, 9), (0, 0)], [], [], [(90, 1000000), (91, 1000000)]),
    ([(1, 0, 81)], [(0, 0), (1, 1), (0, 0), (6, 6), (8, 8), (1, 1)], [], [], [(90, 1000000), (91, 1000000)]),
    ([(1, 0, 80)], [(0, 0), (1, 1), (0, 0), (6, 6), (8, 8), (0, 0)], [], [], [(90, 1000000), (91, 1000000)]),
    ([(1, 0, 81)], [(0, 0), (1, 1), (0, 0), (6, 6), (7, 7), (1, 1)], [], [], [(90, 1000000), (91, 1000000)]),
    ([(1, 0, 77)], [(0, 0), (1, 1), (0, 0), (6, 6), (7, 7), (0, 0)], [], [], [(90, 1000000), (91, 1000000)]),
    ([(1, 0, 81)], [(0, 0), (1, 1), (0, 0), (6, 6), (6, 6), (1, 1)], [], [], [(90, 1000000), (91, 1000000)]),
    ([(1, 0, 74)], [(0, 0), (1, 1), (0, 0), (6, 6), (6, 6), (0, 0)], [], [], [(90, 1000000), (91, 1000000)]),
    ([(1, 0, 81)], [(0, 0), (1, 1), (0, 0), (6, 6), (5, 5), (1, 1)], [], [], [(90, 1000000), (91, 1000000)]),
    ([(1, 0, 73)], [(0, 0), (1, 1), (0, 0), (6, 6), (5, 5), (0, 0)], [], [], [(90, 1000000), (91, 1000000)]),
    ([(1, 0, 9)], [(0, 0), (1, 1), (0, 0), (6, 6), (4, 4), (1, 1)], [], [], [(90, 1000000), (91, 1000000)]),
    ([(1, 0, 8)], [(0, 0), (1, 1), (0, 0), (6, 6), (4, 4), (0, 0)], [], [], [(90, 1000000), (91, 1000000)]),
    ([(1, 0, 9)], [(0, 0), (1, 1), (0, 0), (6, 6), (3, 3), (1, 1)], [], [], [(90, 1000000), (91, 1000000)]),
    ([(1, 0, 8)], [(0, 0), (1, 1), (0, 0), (6, 6), (3, 3), (0, 0)], [], [], [(90, 1000000), (91, 1000000)]),
    ([(1, 0, 9)], [(0, 0), (1, 1), (0, 0), (6, 6), (2, 2), (1, 1)], [], [], [(90, 1000000), (91, 1000000)]),
    ([(1, 0, 8)], [(0, 0), (1, 1), (0, 0), (6, 6), (2, 2), (0, 0)], [], [], [(90, 1000000), (91, 1000000)]),
    ([(1, 0, 9)], [(0, 0), (1, 1), (0, 0), (6, 6), (1, 1), (1, 1)], [], [], [(90, 1000000), (91, 1000000)]),
    ([(1, 0, 8)], [(0, 0), (1, 1), (0, 0), (6, 6), (1, 1), (0, 0)], [], [], [(90, 1000000), (91, 1000000)]),
    ([(1, 0, 9)], [(0, 0), (1, 1), (0, 0), (6, 6), (0, 0), (1, 1)], [], [], [(90, 1000000), (91, 1000000)]),
    ([(1, 0, 8)], [(0, 0), (1, 1), (0, 0), (6, 6), (0, 0), (0, 0)], [], [], [(90, 1000000), (91, 1000000)]),
    ([(1, 0, 1)], [(0, 0), (0, 0), (2, 2), (6, 6), (9, 9), (1, 1)], [], [], [(90, 1000000), (91, 1000000)]),
    ([(1, 0, 1)], [(0, 0), (0, 0), (2, 2), (6, 6), (9, 9), (0, 0)], [], [], [(90, 1000000), (91, 1000000)]),
    ([(1, 0, 81)], [(0, 0), (0, 0), (2, 2), (6, 6), (8, 8), (1, 1)], [], [], [(90, 1000000), (91, 1000000)]),
    ([(1, 0, 64)], [(0, 0), (0, 0), (2, 2), (6, 6), (8, 8), (0, 0)], [], [], [(90, 1000000), (91, 1000000)]),
    ([(1, 0, 81)], [(0, 0), (0, 0), (2, 2), (6, 6), (7, 7), (1, 1)], [], [], [(90, 1000000), (91, 1000000)]),
    ([(1, 0, 49)], [(0, 0), (0, 0), (2, 2), (6, 6), (7, 7), (0, 0)], [], [], [(90, 1000000), (91, 1000000)]),
    ([(1, 0, 9)], [(0, 0), (0, 0), (2, 2), (6, 6), (6, 6), (1, 1)], [], [], [(90, 1000000), (91, 1000000)]),
    ([(1, 0, 4)], [(0, 0), (0, 0), (2, 2), (6, 6), (6, 6), (0, 0)], [], [], [(90, 1000000), (91, 1000000)]),
    ([(1, 0, 27)], [(0, 0), (0, 0), (2, 2), (6, 6), (5, 5), (1, 1)], [], [], [(90, 1000000), (91, 1000000)]),
    ([(1, 0, 10)], [(0, 0), (0, 0), (2, 2), (6, 6), (5, 5), (0, 0)], [], [], [(90, 1000000), (91, 1000000)]),
    ([(1, 0, 27)], [(0, 0), (0, 0), (2, 2), (6, 6), (4, 4), (1, 1)], [], [], [(90, 1000000), (91, 1000000)]),
    ([(1, 0, 8)], [(0, 0), (0, 0), (2, 2), (6, 6), (4, 4), (0, 0)], [], [], [(90, 1000000), (91, 1000000)]),
    ([(1, 0, 27)], [(0, 0), (0, 0), (2, 2), (6, 6), (3, 3), (1, 1)], [], [], [(90, 1000000), (91, 1000000)]),
    ([(1, 0, 8)], [(0, 0), (0, 0), (2, 2), (6, 6), (3, 3), (0, 0)], [], [], [(90, 1000000), (91, 1000000)]),
    ([(1, 0, 27)], [(0, 0), (0, 0), (2, 2), (6, 6), (2, 2), (1, 1)], [], [], [(90, 1000000), (91, 1000000)]),
    ([(1, 0, 8)], [(0, 0), (0, 0), (2, 2), (6, 6), (2, 2), (0, 0)], [], [], [(90, 1000000), (91, 1000000)]),
    ([(1, 0, 27)], [(0, 0), (0, 0), (2, 2), (6, 6), (1, 1), (1, 1)], [], [], [(90, 1000000), (91, 1000000)]),
    ([(1, 0, 8)], [(0, 0), (0, 0), (2, 2), (6, 6), (1, 1), (0, 0)], [], [], [(90, 1000000), (91, 1000000)]),
    ([(1, 0, 27)], [(0, 0), (0, 0), (2, 2), (6, 6), (0, 0), (1, 1)], [], [], [(90, 1000000), (91, 1000000)]),
    ([(1, 0, 8)], [(0, 0), (0, 0), (2, 2), (6, 6), (0, 0), (0, 0)], [], [], [(90, 1000000), (91, 1000000)]),
    ([(1, 0, 1)], [(0, 0), (0, 0), (1, 1), (6, 6), (9, 9), (1, 1)], [], [], [(90, 1000000), (91, 1000000)]),
    ([(1, 0, 1)], [(0, 0), (0, 0), (1, 1), (6, 6), (9, 9), (0, 0)], [], [], [(90, 1000000), (91, 1000000)]),
    ([(1, 0, 9)], [(0, 0), (0, 0), (1, 1), (6, 6), (8, 8), (1, 1)], [], [], [(90, 1000000), (91, 1000000)]),
    ([(1, 0, 8)], [(0, 0), (0, 0), (1, 1), (6, 6), (8, 8), (0, 0)], [], [], [(90, 1000000), (91, 1000000)]),
    ([(1, 0, 243)], [(0, 0), (0, 0), (1, 1), (6, 6), (7, 7), (1, 1)], [], [], [(90, 1000000), (91, 1000000)]),
    ([(1, 0, 191)], [(0, 0), (0, 0), (1, 1), (6, 6), (7, 7), (0, 0)], [], [], [(90, 1000000), (91, 1000000)]),
    ([(1, 0, 81)], [(0, 0), (0, 0), (1, 1), (6, 6), (6, 6), (1, 1)], [], [], [(90, 1000000), (91, 1000000)]),
    ([(1, 0, 56)], [(0, 0), (0, 0), (1, 1), (6, 6), (6, 6), (0, 0)], [], [], [(90, 1000000), (91, 1000000)]),
    ([(1, 0, 81)], [(0, 0), (0, 0), (1, 1), (6, 6), (5, 5), (1, 1)], [], [], [(90, 1000000), (91, 1000000)]),
    ([(1, 0, 52)], [(0, 0), (0, 0), (1, 1), (6, 6), (5, 5), (0, 0)], [], [], [(90, 1000000), (91, 1000000)]),
    ([(1, 0, 27)], [(0, 0), (0, 0), (1, 1), (6, 6), (4, 4), (1, 1)], [], [], [(90, 1000000), (91, 1000000)]),
    ([(1, 0, 16)], [(0, 0), (0, 0), (1, 1), (6, 6), (4, 4), (0, 0)], [], [], [(90, 1000000), (91, 1000000)]),
    ([(1, 0, 27)], [(0, 0), (0, 0), (1, 1), (6, 6), (3, 3), (1, 1)], [], [], [(90, 1000000), (91, 1000000)]),
    ([(1, 0, 16)], [(0, 0), (0, 0), (1, 1), (6, 6), (3, 3), (0, 0)], [], [], [(90, 1000000), (91, 1000000)]),
    ([(1, 0, 27)], [(0, 0), (0, 0), (1, 1), (6, 6), (2, 2), (1, 1)], [], [], [(90, 1000000), (91, 1000000)]),
    ([(1, 0, 16)], [(0, 0), (0, 0), (1, 1), (6, 6), (2, 2), (0, 0)], [], [], [(90, 1000000), (91, 1000000)]),
    ([(1, 0, 27)], [(0, 0), (0, 0), (1, 1), (6, 6), (1, 1), (1, 1)], [], [], [(90, 1000000), (91, 1000000)]),
    ([(1, 0, 16)], [(0, 0), (0, 0), (1, 1), (6, 6), (1, 1), (0, 0)], [], [], [(90, 1000000), (91, 1000000)]),
    ([(1, 0, 27)], [(0, 0), (0, 0), (1, 1), (6, 6), (0, 0), (1, 1)], [], [], [(90, 1000000), (91, 1000000)]),
    ([(1, 0, 16)], [(0, 0), (0, 0), (1, 1), (6, 6), (0, 0), (0, 0)], [], [], [(90, 1000000), (91, 1000000)]),
    ([(1, 0, 1)], [(0, 0), (0, 0), (0, 0), (6, 6), (9, 9), (1, 1)], [], [], [(90, 1000000), (91, 1000000)]),
    ([(1, 0, 1)], [(0, 0), (0, 0), (0, 0), (6, 6), (9, 9), (0, 0)], [], [], [(90, 1000000), (91, 1000000)]),
    ([(1, 0, 729)], [(0, 0), (0, 0), (0, 0), (6, 6), (8, 8), (1, 1)], [], [], [(90, 1000000), (91, 1000000)]),
    ([(1, 0, 704)], [(0, 0), (0, 0), (0, 0), (6, 6), (8, 8), (0, 0)], [], [], [(90, 1000000), (91, 1000000)]),
    ([(1, 0, 729)], [(0, 0), (0, 0), (0, 0), (6, 6), (7, 7), (1, 1)], [], [], [(90, 1000000), (91, 1000000)]),
    ([(1, 0, 653)], [(0, 0), (0, 0), (0, 0), (6, 6), (7, 7), (0, 0)], [], [], [(90, 1000000), (91, 1000000)]),
    ([(1, 0, 81)], [(0, 0), (0, 0), (0, 0), (6, 6), (6, 6), (1, 1)], [], [], [(90, 1000000), (91, 1000000)]),
    ([(1, 0, 68)], [(0, 0), (0, 0), (0, 0), (6, 6), (6, 6), (0, 0)], [], [], [(90, 1000000), (91, 1000000)]),
    ([(1, 0, 27)], [(0, 0), (0, 0), (0, 0), (6, 6), (5, 5), (1, 1)], [], [], [(90, 1000000), (91, 1000000)]),
    ([(1, 0, 22)], [(0, 0), (0, 0), (0, 0), (6, 6), (5, 5), (0, 0)], [], [], [(90, 1000000), (91, 1000000)]),
    ([(1, 0, 81)], [(0, 0), (0, 0), (0, 0), (6, 6), (4, 4), (1, 1)], [], [], [(90, 1000000), (91, 1000000)]),
    ([(1, 0, 64)], [(0, 0), (0, 0), (0, 0), (6, 6), (4, 4), (0, 0)], [], [], [(90, 1000000), (91, 1000000)]),
    ([(1, 0, 81)], [(0, 0), (0, 0), (0, 0), (6, 6), (3, 3), (1, 1)], [], [], [(90, 1000000), (91, 1000000)]),
    ([(1, 0, 64)], [(0, 0), (0, 0), (0, 0), (6, 6), (3, 3), (0, 0)], [], [], [(90, 1000000), (91, 1000000)]),
    ([(1, 0, 81)], [(0, 0), (0, 0), (0, 0), (6, 6), (2, 2), (1, 1)], [], [], [(90, 1000000), (91, 1000000)]),
    ([(1, 0, 64)], [(0, 0), (0, 0), (0, 0), (6, 6), (2, 2), (0, 0)], [], [], [(90, 1000000), (91, 1000000)]),
    ([(1, 0, 81)], [(0, 0), (0, 0), (0, 0), (6, 6), (1, 1), (1, 1)], [], [], [(90, 1000000), (91, 1000000)]),
    ([(1, 0, 64)], [(0, 0), (0, 0), (0, 0), (6, 6), (1, 1), (0, 0)], [], [], [(90, 1000000), (91, 1000000)]),
    ([(1, 0, 81)], [(0, 0), (0, 0), (0, 0), (6, 6), (0, 0), (1, 1)], [], [], [(90, 1000000), (91, 1000000)]),
    ([(1, 0, 64)], [(0, 0), (0, 0), (0, 0), (6, 6), (0, 0), (0, 0)], [], [], [(90, 1000000), (91, 1000000)])])
def nxo_bolder_7 : List ab_OU := [([], [(0, 0), ((-2147483648), (-1)), ((-2147483648), 2147483647), (6, 6), ((-2147483648), 2147483647), ((-2147483648), 2147483647)], [], [], []),
    ([], [(0, 0), (3, 2147483647), ((-2147483648), 2147483647), (6, 6), ((-2147483648), 2147483647), ((-2147483648), 2147483647)], [], [], []),
    ([], [(0, 0), (0, 2), ((-2147483648), (-1)), (6, 6), ((-2147483648), 2147483647), ((-2147483648), 2147483647)], [], [], []),
    ([], [(0, 0), (0, 2), (3, 2147483647), (6, 6), ((-2147483648), 2147483647), ((-2147483648), 2147483647)], [], [], []),
    ([], [(0, 0), (0, 2), (0, 2), (6, 6), ((-2147483648), (-1)), ((-2147483648), 2147483647)], [], [], []),
    ([], [(0, 0), (0, 2), (0, 2), (6, 6), (10, 2147483647), ((-2147483648), 2147483647)], [], [], []),
    ([], [(0, 0), (0, 2), (0, 2), (6, 6), (0, 9), ((-2147483648), (-1))], [], [], []),
    ([], [(0, 0), (0, 2), (0, 2), (6, 6), (0, 9), (2, 2147483647)], [], [], [])]
def nxe_bolder_7_0 : ab_ND := (37, ([(0, (2, 0, 0)), (1, (0, 1, 0)), (2, (0, 2, 0)), (3, (0, 3, 0)), (4, (0, 4, 0)), (5, (0, 5, 0))], [], [(0, 0), ((-2147483648), (-1)), ((-2147483648), 2147483647), (6, 6), ((-2147483648), 2147483647), ((-2147483648), 2147483647)], [], [], []), ((0, [], []), (0, [], []), (0, [], [])))
def nxe_bolder_7_1 : ab_ND := (37, ([(0, (2, 0, 0)), (1, (0, 1, 0)), (2, (0, 2, 0)), (3, (0, 3, 0)), (4, (0, 4, 0)), (5, (0, 5, 0))], [], [(0, 0), (3, 2147483647), ((-2147483648), 2147483647), (6, 6), ((-2147483648), 2147483647), ((-2147483648), 2147483647)], [], [], []), ((0, [], []), (0, [], []), (0, [], [])))
def nxe_bolder_7_2 : ab_ND := (37, ([(0, (2, 0, 0)), (1, (0, 1, 0)), (2, (0, 2, 0)), (3, (0, 3, 0)), (4, (0, 4, 0)), (5, (0, 5, 0))], [], [(0, 0), (0, 2), ((-2147483648), (-1)), (6, 6), ((-2147483648), 2147483647), ((-2147483648), 2147483647)], [], [], []), ((0, [], []), (0, [], []), (0, [], [])))
def nxe_bolder_7_3 : ab_ND := (37, ([(0, (2, 0, 0)), (1, (0, 1, 0)), (2, (0, 2, 0)), (3, (0, 3, 0)), (4, (0, 4, 0)), (5, (0, 5, 0))], [], [(0, 0), (0, 2), (3, 2147483647), (6, 6), ((-2147483648), 2147483647), ((-2147483648), 2147483647)], [], [], []), ((0, [], []), (0, [], []), (0, [], [])))
def nxe_bolder_7_4 : ab_ND := (37, ([(0, (2, 0, 0)), (1, (0, 1, 0)), (2, (0, 2, 0)), (3, (0, 3, 0)), (4, (0, 4, 0)), (5, (0, 5, 0))], [], [(0, 0), (0, 2), (0, 2), (6, 6), ((-2147483648), (-1)), ((-2147483648), 2147483647)], [], [], []), ((0, [], []), (0, [], []), (0, [], [])))
def nxe_bolder_7_5 : ab_ND := (37, ([(0, (2, 0, 0)), (1, (0, 1, 0)), (2, (0, 2, 0)), (3, (0, 3, 0)), (4, (0, 4, 0)), (5, (0, 5, 0))], [], [(0, 0), (0, 2), (0, 2), (6, 6), (10, 2147483647), ((-2147483648), 2147483647)], [], [], []), ((0, [], []), (0, [], []), (0, [], [])))
def nxe_bolder_7_6 : ab_ND := (37, ([(0, (2, 0, 0)), (1, (0, 1, 0)), (2, (0, 2, 0)), (3, (0, 3, 0)), (4, (0, 4, 0)), (5, (0, 5, 0))], [], [(0, 0), (0, 2), (0, 2), (6, 6), (0, 9), ((-2147483648), (-1))], [], [], []), ((0, [], []), (0, [], []), (0, [], [])))
def nxe_bolder_7_7 : ab_ND := (37, ([(0, (2, 0, 0)), (1, (0, 1, 0)), (2, (0, 2, 0)), (3, (0, 3, 0)), (4, (0, 4, 0)), (5, (0, 5, 0))], [], [(0, 0), (0, 2), (0, 2), (6, 6), (0, 9), (2, 2147483647)], [], [], []), ((0, [], []), (0, [], []), (0, [], [])))
def nxm_bolder_7_0 : ab_ND := (0, (ab_en0 0 nxd_bolder_7.1, [], nxd_bolder_7.2.1, nxd_bolder_7.2.2.1, nxd_bolder_7.2.2.2.1, []), ((9000000000000000000000, [], []), (0, [], []), (0, [], [])))
def nxm_bolder_7_1 : ab_ND := (48, ([(0, (2, 0, 0)), (1, (0, 0, 2)), (2, (0, 0, 2)), (3, (0, 0, 6)), (4, (0, 4, 0)), (5, (0, 5, 0))], [(2, 0, 0)], [(0, 0), (2, 2), (2, 2), (6, 6), (0, 9), (0, 1)], [], [], []), ((0, [], []), (0, [], []), (0, [], [])))
def nxm_bolder_7_2 : ab_ND := (48, ([(0, (2, 0, 0)), (1, (0, 0, 2)), (2, (0, 0, 1)), (3, (0, 0, 6)), (4, (0, 4, 0)), (5, (0, 5, 0))], [(2, 0, 0)], [(0, 0), (2, 2), (1, 1), (6, 6), (0, 9), (0, 1)], [], [], []), ((1000000000000000000000, [], []), (0, [], []), (0, [], [])))
def nxm_bolder_7_3 : ab_ND := (48, ([(0, (2, 0, 0)), (1, (0, 0, 2)), (2, (0, 0, 0)), (3, (0, 0, 6)), (4, (0, 4, 0)), (5, (0, 5, 0))], [(2, 0, 0)], [(0, 0), (2, 2), (0, 0), (6, 6), (0, 9), (0, 1)], [], [], []), ((2000000000000000000000, [], []), (0, [], []), (0, [], [])))
def nxm_bolder_7_4 : ab_ND := (48, ([(0, (2, 0, 0)), (1, (0, 0, 1)), (2, (0, 0, 2)), (3, (0, 0, 6)), (4, (0, 4, 0)), (5, (0, 5, 0))], [(2, 0, 0)], [(0, 0), (1, 1), (2, 2), (6, 6), (0, 9), (0, 1)], [], [], []), ((3000000000000000000000, [], []), (0, [], []), (0, [], [])))
def nxm_bolder_7_5 : ab_ND := (48, ([(0, (2, 0, 0)), (1, (0, 0, 1)), (2, (0, 0, 1)), (3, (0, 0, 6)), (4, (0, 4, 0)), (5, (0, 5, 0))], [(2, 0, 0)], [(0, 0), (1, 1), (1, 1), (6, 6), (0, 9), (0, 1)], [], [], []), ((4000000000000000000000, [], []), (0, [], []), (0, [], [])))
def nxm_bolder_7_6 : ab_ND := (48, ([(0, (2, 0, 0)), (1, (0, 0, 1)), (2, (0, 0, 0)), (3, (0, 0, 6)), (4, (0, 4, 0)), (5, (0, 5, 0))], [(2, 0, 0)], [(0, 0), (1, 1), (0, 0), (6, 6), (0, 9), (0, 1)], [], [], []), ((5000000000000000000000, [], []), (0, [], []), (0, [], [])))
def nxm_bolder_7_7 : ab_ND := (48, ([(0, (2, 0, 0)), (1, (0, 0, 0)), (2, (0, 0, 2)), (3, (0, 0, 6)), (4, (0, 4, 0)), (5, (0, 5, 0))], [(2, 0, 0)], [(0, 0), (0, 0), (2, 2), (6, 6), (0, 9), (0, 1)], [], [], []), ((6000000000000000000000, [], []), (0, [], []), (0, [], [])))
def nxm_bolder_7_8 : ab_ND := (48, ([(0, (2, 0, 0)), (1, (0, 0, 0)), (2, (0, 0, 1)), (3, (0, 0, 6)), (4, (0, 4, 0)), (5, (0, 5, 0))], [(2, 0, 0)], [(0, 0), (0, 0), (1, 1), (6, 6), (0, 9), (0, 1)], [], [], []), ((7000000000000000000000, [], []), (0, [], []), (0, [], [])))
def nxm_bolder_7_9 : ab_ND := (48, ([(0, (2, 0, 0)), (1, (0, 0, 0)), (2, (0, 0, 0)), (3, (0, 0, 6)), (4, (0, 4, 0)), (5, (0, 5, 0))], [(2, 0, 0)], [(0, 0), (0, 0), (0, 0), (6, 6), (0, 9), (0, 1)], [], [], []), ((8000000000000000000000, [], []), (0, [], []), (0, [], [])))
def nxn_bolder_7 : List ab_ND := [nxm_bolder_7_0, nxm_bolder_7_1, nxm_bolder_7_2, nxm_bolder_7_3, nxm_bolder_7_4, nxm_bolder_7_5, nxm_bolder_7_6, nxm_bolder_7_7, nxm_bolder_7_8, nxm_bolder_7_9]
def nxk_bolder_7 : ab_KS := [(136, 0, le_736), (81, 0, le_737), (55, 0, le_738), (138, 1, le_747), (138, 1, le_753), (138, 1, le_762), (138, 1, le_766), (138, 1, le_768), (138, 1, le_776), (138, 1, le_780), (138, 1, le_782), (193, 0, le_786), (193, 0, le_787), (193, 0, le_789), (193, 0, le_790), (193, 0, le_792), (193, 0, le_793), (193, 0, le_795), (193, 0, le_796), (193, 0, le_798), (193, 0, le_799), (193, 0, le_801), (193, 0, le_802), (193, 0, le_815), (193, 0, le_816), (193, 0, le_817), (193, 0, le_818), (193, 0, le_821), (193, 0, le_822), (193, 0, le_827), (193, 0, le_828), (193, 0, le_829), (193, 0, le_830), (138, 1, le_840), (193, 0, le_841), (193, 0, le_842), (193, 0, le_845), (193, 0, le_846), (193, 0, le_867), (193, 0, le_868), (193, 0, le_929), (193, 0, le_930), (193, 0, le_1003), (193, 0, le_1004), (193, 0, le_1035), (193, 0, le_1036), (193, 0, le_1037), (193, 0, le_1038), (193, 0, le_1039), (193, 0, le_1040), (137, 2, le_1167), (137, 2, le_1168), (137, 2, le_1169), (137, 2, le_1170), (137, 2, le_1171), (137, 2, le_1172), (137, 2, le_1173), (137, 2, le_1174), (137, 2, le_1175), (137, 2, le_1176), (193, 0, le_1177), (193, 0, le_1178), (193, 0, le_1179), (193, 0, le_1180), (193, 0, le_1181), (193, 0, le_1182), (193, 0, le_1183), (193, 0, le_1184), (193, 0, le_1185), (193, 0, le_1186), (193, 0, le_1187), (193, 0, le_1188), (193, 0, le_1189), (193, 0, le_1190), (193, 0, le_1191), (193, 0, le_1192), (193, 0, le_1193), (193, 0, le_1194)]
theorem nxc_bolder_7_0 : ab_cn vwCl nn_T nn_C nn_sh nn_MT (nn_KI1.map (fun x => x.1)) (nn_KJ1.map (fun x => x.1)) (nn_PF1.map (fun x => x.1)) nn_kd (nn_PS1.map (fun x => x.1)) (nn_PM1.map (fun x => x.1)) nxk_bolder_7 3 0 nn_dt200 6 nxd_bolder_7.2.1.length nxd_bolder_7.2.2.2.2 2 [] [37, 47, 48] [(47, [(0, 3, 0, 0), (0, 1, 0, 0), (0, 2, 0, 0)]), (48, [(0, 4, 0, 0), (0, 5, 0, 0)])] [nxe_bolder_7_0, nxe_bolder_7_1, nxe_bolder_7_2, nxe_bolder_7_3, nxe_bolder_7_4, nxe_bolder_7_5, nxe_bolder_7_6, nxe_bolder_7_7] nxn_bolder_7 21 nxm_bolder_7_0 = true := by decide +kernel
theorem nxc_bolder_7_1 : ab_cn vwCl nn_T nn_C nn_sh nn_MT (nn_KI1.map (fun x => x.1)) (nn_KJ1.map (fun x => x.1)) (nn_PF1.map (fun x => x.1)) nn_kd (nn_PS1.map (fun x => x.1)) (nn_PM1.map (fun x => x.1)) nxk_bolder_7 3 0 nn_dt200 6 nxd_bolder_7.2.1.length nxd_bolder_7.2.2.2.2 2 [] [37, 47, 48] [(47, [(0, 3, 0, 0), (0, 1, 0, 0), (0, 2, 0, 0)]), (48, [(0, 4, 0, 0), (0, 5, 0, 0)])] [nxe_bolder_7_0, nxe_bolder_7_1, nxe_bolder_7_2, nxe_bolder_7_3, nxe_bolder_7_4, nxe_bolder_7_5, nxe_bolder_7_6, nxe_bolder_7_7] nxn_bolder_7 21 nxm_bolder_7_1 = true := by decide +kernel
theorem nxc_bolder_7_2 : ab_cn vwCl nn_T nn_C nn_sh nn_MT (nn_KI1.map (fun x => x.1)) (nn_KJ1.map (fun x => x.1)) (nn_PF1.map (fun x => x.1)) nn_kd (nn_PS1.map (fun x => x.1)) (nn_PM1.map (fun x => x.1)) nxk_bolder_7 3 0 nn_dt200 6 nxd_bolder_7.2.1.length nxd_bolder_7.2.2.2.2 2 [] [37, 47, 48] [(47, [(0, 3, 0, 0), (0, 1, 0, 0), (0, 2, 0, 0)]), (48, [(0, 4, 0, 0), (0, 5, 0, 0)])] [nxe_bolder_7_0, nxe_bolder_7_1, nxe_bolder_7_2, nxe_bolder_7_3, nxe_bolder_7_4, nxe_bolder_7_5, nxe_bolder_7_6, nxe_bolder_7_7] nxn_bolder_7 21 nxm_bolder_7_2 = true := by decide +kernel
theorem nxc_bolder_7_3 : ab_cn vwCl nn_T nn_C nn_sh nn_MT (nn_KI1.map (fun x => x.1)) (nn_KJ1.map (fun x => x.1)) (nn_PF1.map (fun x => x.1)) nn_kd (nn_PS1.map (fun x => x.1)) (nn_PM1.map (fun x => x.1)) nxk_bolder_7 3 0 nn_dt200 6 nxd_bolder_7.2.1.length nxd_bolder_7.2.2.2.2 2 [] [37, 47, 48] [(47, [(0, 3, 0, 0), (0, 1, 0, 0), (0, 2, 0, 0)]), (48, [(0, 4, 0, 0), (0, 5, 0, 0)])] [nxe_bolder_7_0, nxe_bolder_7_1, nxe_bolder_7_2, nxe_bolder_7_3, nxe_bolder_7_4, nxe_bolder_7_5, nxe_bolder_7_6, nxe_bolder_7_7] nxn_bolder_7 21 nxm_bolder_7_3 = true := by decide +kernel
theorem nxc_bolder_7_4 : ab_cn vwCl nn_T nn_C nn_sh nn_MT (nn_KI1.map (fun x => x.1)) (nn_KJ1.map (fun x => x.1)) (nn_PF1.map (fun x => x.1)) nn_kd (nn_PS1.map (fun x => x.1)) (nn_PM1.map (fun x => x.1)) nxk_bolder_7 3 0 nn_dt200 6 nxd_bolder_7.2.1.length nxd_bolder_7.2.2.2.2 2 [] [37, 47, 48] [(47, [(0, 3, 0, 0), (0, 1, 0, 0), (0, 2, 0, 0)]), (48, [(0, 4, 0, 0), (0, 5, 0, 0)])] [nxe_bolder_7_0, nxe_bolder_7_1, nxe_bolder_7_2, nxe_bolder_7_3, nxe_bolder_7_4, nxe_bolder_7_5, nxe_bolder_7_6, nxe_bolder_7_7] nxn_bolder_7 21 nxm_bolder_7_4 = true := by decide +kernel
theorem nxc_bolder_7_5 : ab_cn vwCl nn_T nn_C nn_sh nn_MT (nn_KI1.map (fun x => x.1)) (nn_KJ1.map (fun x => x.1)) (nn_PF1.map (fun x => x.1)) nn_kd (nn_PS1.map (fun x => x.1)) (nn_PM1.map (fun x => x.1)) nxk_bolder_7 3 0 nn_dt200 6 nxd_bolder_7.2.1.length nxd_bolder_7.2.2.2.2 2 [] [37, 47, 48] [(47, [(0, 3, 0, 0), (0, 1, 0, 0), (0, 2, 0, 0)]), (48, [(0, 4, 0, 0), (0, 5, 0, 0)])] [nxe_bolder_7_0, nxe_bolder_7_1, nxe_bolder_7_2, nxe_bolder_7_3, nxe_bolder_7_4, nxe_bolder_7_5, nxe_bolder_7_6, nxe_bolder_7_7] nxn_bolder_7 21 nxm_bolder_7_5 = true := by decide +kernel
theorem nxc_bolder_7_6 : ab_cn vwCl nn_T nn_C nn_sh nn_MT (nn_KI1.map (fun x => x.1)) (nn_KJ1.map (fun x => x.1)) (nn_PF1.map (fun x => x.1)) nn_kd (nn_PS1.map (fun x => x.1)) (nn_PM1.map (fun x => x.1)) nxk_bolder_7 3 0 nn_dt200 6 nxd_bolder_7.2.1.length nxd_bolder_7.2.2.2.2 2 [] [37, 47, 48] [(47, [(0, 3, 0, 0), (0, 1, 0, 0), (0, 2, 0, 0)]), (48, [(0, 4, 0, 0), (0, 5, 0, 0)])] [nxe_bolder_7_0, nxe_bolder_7_1, nxe_bolder_7_2, nxe_bolder_7_3, nxe_bolder_7_4, nxe_bolder_7_5, nxe_bolder_7_6, nxe_bolder_7_7] nxn_bolder_7 21 nxm_bolder_7_6 = true := by decide +kernel
theorem nxc_bolder_7_7 : ab_cn vwCl nn_T nn_C nn_sh nn_MT (nn_KI1.map (fun x => x.1)) (nn_KJ1.map (fun x => x.1)) (nn_PF1.map (fun x => x.1)) nn_kd (nn_PS1.map (fun x => x.1)) (nn_PM1.map (fun x => x.1)) nxk_bolder_7 3 0 nn_dt200 6 nxd_bolder_7.2.1.length nxd_bolder_7.2.2.2.2 2 [] [37, 47, 48] [(47, [(0, 3, 0, 0), (0, 1, 0, 0), (0, 2, 0, 0)]), (48, [(0, 4, 0, 0), (0, 5, 0, 0)])] [nxe_bolder_7_0, nxe_bolder_7_1, nxe_bolder_7_2, nxe_bolder_7_3, nxe_bolder_7_4, nxe_bolder_7_5, nxe_bolder_7_6, nxe_bolder_7_7] nxn_bolder_7 21 nxm_bolder_7_7 = true := by decide +kernel
theorem nxc_bolder_7_8 : ab_cn vwCl nn_T nn_C nn_sh nn_MT (nn_KI1.map (fun x => x.1)) (nn_KJ1.map (fun x => x.1)) (nn_PF1.map (fun x => x.1)) nn_kd (nn_PS1.map (fun x => x.1)) (nn_PM1.map (fun x => x.1)) nxk_bolder_7 3 0 nn_dt200 6 nxd_bolder_7.2.1.length nxd_bolder_7.2.2.2.2 2 [] [37, 47, 48] [(47, [(0, 3, 0, 0), (0, 1, 0, 0), (0, 2, 0, 0)]), (48, [(0, 4, 0, 0), (0, 5, 0, 0)])] [nxe_bolder_7_0, nxe_bolder_7_1, nxe_bolder_7_2, nxe_bolder_7_3, nxe_bolder_7_4, nxe_bolder_7_5, nxe_bolder_7_6, nxe_bolder_7_7] nxn_bolder_7 21 nxm_bolder_7_8 = true := by decide +kernel
theorem nxc_bolder_7_9 : ab_cn vwCl nn_T nn_C nn_sh nn_MT (nn_KI1.map (fun x => x.1)) (nn_KJ1.map (fun x => x.1)) (nn_PF1.map (fun x => x.1)) nn_kd (nn_PS1.map (fun x => x.1)) (nn_PM1.map (fun x => x.1)) nxk_bolder_7 3 0 nn_dt200 6 nxd_bolder_7.2.1.length nxd_bolder_7.2.2.2.2 2 [] [37, 47, 48] [(47, [(0, 3, 0, 0), (0, 1, 0, 0), (0, 2, 0, 0)]), (48, [(0, 4, 0, 0), (0, 5, 0, 0)])] [nxe_bolder_7_0, nxe_bolder_7_1, nxe_bolder_7_2, nxe_bolder_7_3, nxe_bolder_7_4, nxe_bolder_7_5, nxe_bolder_7_6, nxe_bolder_7_7] nxn_bolder_7 21 nxm_bolder_7_9 = true := by decide +kernel
theorem nxc_bolder_7 : nxn_bolder_7.all (ab_cn vwCl nn_T nn_C nn_sh nn_MT (nn_KI1.map (fun x => x.1)) (nn_KJ1.map (fun x => x.1)) (nn_PF1.map (fun x => x.1)) nn_kd (nn_PS1.map (fun x => x.1)) (nn_PM1.map (fun x => x.1)) nxk_bolder_7 3 0 nn_dt200 6 nxd_bolder_7.2.1.length nxd_bolder_7.2.2.2.2 2 [] [37, 47, 48] [(47, [(0, 3, 0, 0), (0, 1, 0, 0), (0, 2, 0, 0)]), (48, [(0, 4, 0, 0), (0, 5, 0, 0)])] [nxe_bolder_7_0, nxe_bolder_7_1, nxe_bolder_7_2, nxe_bolder_7_3, nxe_bolder_7_4, nxe_bolder_7_5, nxe_bolder_7_6, nxe_bolder_7_7] nxn_bolder_7 21) = true := List.all_eq_true.mpr (List.forall_mem_cons.mpr ⟨nxc_bolder_7_0, List.forall_mem_cons.mpr ⟨nxc_bolder_7_1, List.forall_mem_cons.mpr ⟨nxc_bolder_7_2, List.forall_mem_cons.mpr ⟨nxc_bolder_7_3, List.forall_mem_cons.mpr ⟨nxc_bolder_7_4, List.forall_mem_cons.mpr ⟨nxc_bolder_7_5, List.forall_mem_cons.mpr ⟨nxc_bolder_7_6, List.forall_mem_cons.mpr ⟨nxc_bolder_7_7, List.forall_mem_cons.mpr ⟨nxc_bolder_7_8, List.forall_mem_cons.mpr ⟨nxc_bolder_7_9, fun _ h => absurd h List.not_mem_nil⟩⟩⟩⟩⟩⟩⟩⟩⟩⟩)
set_option maxHeartbeats 4000000 in
theorem nxt_bolder_7 (l : Launch) (htr : l.stackTraces = false) (cy : Nat → ClassId) (ad wr cr : Nat → Nat) (D : va_G) (hinj : nn_inj ad) : nx_H l cy ad wr cr D (200, 3, nxd_bolder_7, nxo_bolder_7) := by
  refine nx_holdW (mr := (⟨"NameNotes", "bolder", "(IIIII)J"⟩, prog_1_method_37_code, 6, (Option.some Jvm.ClassFile.FieldType.long), 5, true, 2)) (dt := nn_dt200) (KS := nxk_bolder_7) htr hinj rfl rfl (by decide +kernel) nn_KI1_ok nn_KJ1_ok nn_PF1_ok nn_PS1_ok nn_PM1_ok (List.forall_mem_cons.mpr ⟨lf_736 l cy ad wr cr D hinj, List.forall_mem_cons.mpr ⟨lf_737 l cy ad wr cr D hinj, List.forall_mem_cons.mpr ⟨lf_738 l cy ad wr cr D hinj, List.forall_mem_cons.mpr ⟨lf_747 l cy ad wr cr D hinj, List.forall_mem_cons.mpr ⟨lf_753 l cy ad wr cr D hinj, List.forall_mem_cons.mpr ⟨lf_762 l cy ad wr cr D hinj, List.forall_mem_cons.mpr ⟨lf_766 l cy ad wr cr D hinj, List.forall_mem_cons.mpr ⟨lf_768 l cy ad wr cr D hinj, List.forall_mem_cons.mpr ⟨lf_776 l cy ad wr cr D hinj, List.forall_mem_cons.mpr ⟨lf_780 l cy ad wr cr D hinj, List.forall_mem_cons.mpr ⟨lf_782 l cy ad wr cr D hinj, List.forall_mem_cons.mpr ⟨lf_786 l cy ad wr cr D hinj, List.forall_mem_cons.mpr ⟨lf_787 l cy ad wr cr D hinj, List.forall_mem_cons.mpr ⟨lf_789 l cy ad wr cr D hinj, List.forall_mem_cons.mpr ⟨lf_790 l cy ad wr cr D hinj, List.forall_mem_cons.mpr ⟨lf_792 l cy ad wr cr D hinj, List.forall_mem_cons.mpr ⟨lf_793 l cy ad wr cr D hinj, List.forall_mem_cons.mpr ⟨lf_795 l cy ad wr cr D hinj, List.forall_mem_cons.mpr ⟨lf_796 l cy ad wr cr D hinj, List.forall_mem_cons.mpr ⟨lf_798 l cy ad wr cr D hinj, List.forall_mem_cons.mpr ⟨lf_799 l cy ad wr cr D hinj, List.forall_mem_cons.mpr ⟨lf_801 l cy ad wr cr D hinj, List.forall_mem_cons.mpr ⟨lf_802 l cy ad wr cr D hinj, List.forall_mem_cons.mpr ⟨lf_815 l cy ad wr cr D hinj, List.forall_mem_cons.mpr ⟨lf_816 l cy ad wr cr D hinj, List.forall_mem_cons.mpr ⟨lf_817 l cy ad wr cr D hinj, List.forall_mem_cons.mpr ⟨lf_818 l cy ad wr cr D hinj, List.forall_mem_cons.mpr ⟨lf_821 l cy ad wr cr D hinj, List.forall_mem_cons.mpr ⟨lf_822 l cy ad wr cr D hinj, List.forall_mem_cons.mpr ⟨lf_827 l cy ad wr cr D hinj, List.forall_mem_cons.mpr ⟨lf_828 l cy ad wr cr D hinj, List.forall_mem_cons.mpr ⟨lf_829 l cy ad wr cr D hinj, List.forall_mem_cons.mpr ⟨lf_830 l cy ad wr cr D hinj, List.forall_mem_cons.mpr ⟨lf_840 l cy ad wr cr D hinj, List.forall_mem_cons.mpr ⟨lf_841 l cy ad wr cr D hinj, List.forall_mem_cons.mpr ⟨lf_842 l cy ad wr cr D hinj, List.forall_mem_cons.mpr ⟨lf_845 l cy ad wr cr D hinj, List.forall_mem_cons.mpr ⟨lf_846 l cy ad wr cr D hinj, List.forall_mem_cons.mpr ⟨lf_867 l cy ad wr cr D hinj, List.forall_mem_cons.mpr ⟨lf_868 l cy ad wr cr D hinj, List.forall_mem_cons.mpr ⟨lf_929 l cy ad wr cr D hinj, List.forall_mem_cons.mpr ⟨lf_930 l cy ad wr cr D hinj, List.forall_mem_cons.mpr ⟨lf_1003 l cy ad wr cr D hinj, List.forall_mem_cons.mpr ⟨lf_1004 l cy ad wr cr D hinj, List.forall_mem_cons.mpr ⟨lf_1035 l cy ad wr cr D hinj, List.forall_mem_cons.mpr ⟨lf_1036 l cy ad wr cr D hinj, List.forall_mem_cons.mpr ⟨lf_1037 l cy ad wr cr D hinj, List.forall_mem_cons.mpr ⟨lf_1038 l cy ad wr cr D hinj, List.forall_mem_cons.mpr ⟨lf_1039 l cy ad wr cr D hinj, List.forall_mem_cons.mpr ⟨lf_1040 l cy ad wr cr D hinj, List.forall_mem_cons.mpr ⟨lf_1167 l cy ad wr cr D hinj, List.forall_mem_cons.mpr ⟨lf_1168 l cy ad wr cr D hinj, List.forall_mem_cons.mpr ⟨lf_1169 l cy ad wr cr D hinj, List.forall_mem_cons.mpr ⟨lf_1170 l cy ad wr cr D hinj, List.forall_mem_cons.mpr ⟨lf_1171 l cy ad wr cr D hinj, List.forall_mem_cons.mpr ⟨lf_1172 l cy ad wr cr D hinj, List.forall_mem_cons.mpr ⟨lf_1173 l cy ad wr cr D hinj, List.forall_mem_cons.mpr ⟨lf_1174 l cy ad wr cr D hinj, List.forall_mem_cons.mpr ⟨lf_1175 l cy ad wr cr D hinj, List.forall_mem_cons.mpr ⟨lf_1176 l cy ad wr cr D hinj, List.forall_mem_cons.mpr ⟨lf_1177 l cy ad wr cr D hinj, List.forall_mem_cons.mpr ⟨lf_1178 l cy ad wr cr D hinj, List.forall_mem_cons.mpr ⟨lf_1179 l cy ad wr cr D hinj, List.forall_mem_cons.mpr ⟨lf_1180 l cy ad wr cr D hinj, List.forall_mem_cons.mpr ⟨lf_1181 l cy ad wr cr D hinj, List.forall_mem_cons.mpr ⟨lf_1182 l cy ad wr cr D hinj, List.forall_mem_cons.mpr ⟨lf_1183 l cy ad wr cr D hinj, List.forall_mem_cons.mpr ⟨lf_1184 l cy ad wr cr D hinj, List.forall_mem_cons.mpr ⟨lf_1185 l cy ad wr cr D hinj, List.forall_mem_cons.mpr ⟨lf_1186 l cy ad wr cr D hinj, List.forall_mem_cons.mpr ⟨lf_1187 l cy ad wr cr D hinj, List.forall_mem_cons.mpr ⟨lf_1188 l cy ad wr cr D hinj, List.forall_mem_cons.mpr ⟨lf_1189 l cy ad wr cr D hinj, List.forall_mem_cons.mpr ⟨lf_1190 l cy ad wr cr D hinj, List.forall_mem_cons.mpr ⟨lf_1191 l cy ad wr cr D hinj, List.forall_mem_cons.mpr ⟨lf_1192 l cy ad wr cr D hinj, List.forall_mem_cons.mpr ⟨lf_1193 l cy ad wr cr D hinj, List.forall_mem_cons.mpr ⟨lf_1194 l cy ad wr cr D hinj, fun _ h => absurd h List.not_mem_nil⟩⟩⟩⟩⟩⟩⟩⟩⟩⟩⟩⟩⟩⟩⟩⟩⟩⟩⟩⟩⟩⟩⟩⟩⟩⟩⟩⟩⟩⟩⟩⟩⟩⟩⟩⟩⟩⟩⟩⟩⟩⟩⟩⟩⟩⟩⟩⟩⟩⟩⟩⟩⟩⟩⟩⟩⟩⟩⟩⟩⟩⟩⟩⟩⟩⟩⟩⟩⟩⟩⟩⟩⟩⟩⟩⟩⟩⟩) ?_
  intro p e s m below meth c R Q ρ σ hE hK hsy hP hRT hTH
  refine ab_entry (lev := 3) (sp := []) (HD := [37, 47, 48]) (HN := [(47, [(0, 3, 0, 0), (0, 1, 0, 0), (0, 2, 0, 0)]), (48, [(0, 4, 0, 0), (0, 5, 0, 0)])]) (EX := [nxe_bolder_7_0, nxe_bolder_7_1, nxe_bolder_7_2, nxe_bolder_7_3, nxe_bolder_7_4, nxe_bolder_7_5, nxe_bolder_7_6, nxe_bolder_7_7]) (NS := nxn_bolder_7) (fuel := 21) (mu := ((9000000000000000000000, [], []), (0, [], []), (0, [], []))) hE (by decide +kernel) hK hsy hP List.mem_cons_self hRT ?_ (fun nd hnd => List.all_eq_true.mp nxc_bolder_7 nd hnd)
  intro nd hnd ρ2 σ2 H locs ls st hG
  rcases List.mem_cons.mp hnd with rfl | hnd
  · exact hTH 37 _ ρ2 σ2 H locs ls st 213 "no such ones" 5 (by decide +kernel) rfl (by decide +kernel) (show decode prog_1_method_37_code 37 = .ok (.new 211, 3) by decide +kernel) (show decode prog_1_method_37_code 40 = .ok (.dup, 1) by decide +kernel) (Or.inl ⟨(show decode prog_1_method_37_code 41 = .ok (.ldc 213, 2) by decide +kernel), (show decode prog_1_method_37_code 43 = .ok (.invokespecial 215, 3) by decide +kernel), (show decode prog_1_method_37_code 46 = .ok (.athrow, 1) by decide +kernel)⟩) hG
  rcases List.mem_cons.mp hnd with rfl | hnd
  · exact hTH 37 _ ρ2 σ2 H locs ls st 213 "no such ones" 5 (by decide +kernel) rfl (by decide +kernel) (show decode prog_1_method_37_code 37 = .ok (.new 211, 3) by decide +kernel) (show decode prog_1_method_37_code 40 = .ok (.dup, 1) by decide +kernel) (Or.inl ⟨(show decode prog_1_method_37_code 41 = .ok (.ldc 213, 2) by decide +kernel), (show decode prog_1_method_37_code 43 = .ok (.invokespecial 215, 3) by decide +kernel), (show decode prog_1_method_37_code 46 = .ok (.athrow, 1) by decide +kernel)⟩) hG
  rcases List.mem_cons.mp hnd with rfl | hnd
  · exact hTH 37 _ ρ2 σ2 H locs ls st 213 "no such ones" 5 (by decide +kernel) rfl (by decide +kernel) (show decode prog_1_method_37_code 37 = .ok (.new 211, 3) by decide +kernel) (show decode prog_1_method_37_code 40 = .ok (.dup, 1) by decide +kernel) (Or.inl ⟨(show decode prog_1_method_37_code 41 = .ok (.ldc 213, 2) by decide +kernel), (show decode prog_1_method_37_code 43 = .ok (.invokespecial 215, 3) by decide +kernel), (show decode prog_1_method_37_code 46 = .ok (.athrow, 1) by decide +kernel)⟩) hG
  rcases List.mem_cons.mp hnd with rfl | hnd
  · exact hTH 37 _ ρ2 σ2 H locs ls st 213 "no such ones" 5 (by decide +kernel) rfl (by decide +kernel) (show decode prog_1_method_37_code 37 = .ok (.new 211, 3) by decide +kernel) (show decode prog_1_method_37_code 40 = .ok (.dup, 1) by decide +kernel) (Or.inl ⟨(show decode prog_1_method_37_code 41 = .ok (.ldc 213, 2) by decide +kernel), (show decode prog_1_method_37_code 43 = .ok (.invokespecial 215, 3) by decide +kernel), (show decode prog_1_method_37_code 46 = .ok (.athrow, 1) by decide +kernel)⟩) hG
  rcases List.mem_cons.mp hnd with rfl | hnd
  · exact hTH 37 _ ρ2 σ2 H locs ls st 213 "no such ones" 5 (by decide +kernel) rfl (by decide +kernel) (show decode prog_1_method_37_code 37 = .ok (.new 211, 3) by decide +kernel) (show decode prog_1_method_37_code 40 = .ok (.dup, 1) by decide +kernel) (Or.inl ⟨(show decode prog_1_method_37_code 41 = .ok (.ldc 213, 2) by decide +kernel), (show decode prog_1_method_37_code 43 = .ok (.invokespecial 215, 3) by decide +kernel), (show decode prog_1_method_37_code 46 = .ok (.athrow, 1) by decide +kernel)⟩) hG
  rcases List.mem_cons.mp hnd with rfl | hnd
  · exact hTH 37 _ ρ2 σ2 H locs ls st 213 "no such ones" 5 (by decide +kernel) rfl (by decide +kernel) (show decode prog_1_method_37_code 37 = .ok (.new 211, 3) by decide +kernel) (show decode prog_1_method_37_code 40 = .ok (.dup, 1) by decide +kernel) (Or.inl ⟨(show decode prog_1_method_37_code 41 = .ok (.ldc 213, 2) by decide +kernel), (show decode prog_1_method_37_code 43 = .ok (.invokespecial 215, 3) by decide +kernel), (show decode prog_1_method_37_code 46 = .ok (.athrow, 1) by decide +kernel)⟩) hG
  rcases List.mem_cons.mp hnd with rfl | hnd
  · exact hTH 37 _ ρ2 σ2 H locs ls st 213 "no such ones" 5 (by decide +kernel) rfl (by decide +kernel) (show decode prog_1_method_37_code 37 = .ok (.new 211, 3) by decide +kernel) (show decode prog_1_method_37_code 40 = .ok (.dup, 1) by decide +kernel) (Or.inl ⟨(show decode prog_1_method_37_code 41 = .ok (.ldc 213, 2) by decide +kernel), (show decode prog_1_method_37_code 43 = .ok (.invokespecial 215, 3) by decide +kernel), (show decode prog_1_method_37_code 46 = .ok (.athrow, 1) by decide +kernel)⟩) hG
  rcases List.mem_cons.mp hnd with rfl | hnd
  · exact hTH 37 _ ρ2 σ2 H locs ls st 213 "no such ones" 5 (by decide +kernel) rfl (by decide +kernel) (show decode prog_1_method_37_code 37 = .ok (.new 211, 3) by decide +kernel) (show decode prog_1_method_37_code 40 = .ok (.dup, 1) by decide +kernel) (Or.inl ⟨(show decode prog_1_method_37_code 41 = .ok (.ldc 213, 2) by decide +kernel), (show decode prog_1_method_37_code 43 = .ok (.invokespecial 215, 3) by decide +kernel), (show decode prog_1_method_37_code 46 = .ok (.athrow, 1) by decide +kernel)⟩) hG
  exact absurd hnd List.not_mem_nil
/-- NameNotes.bolder_8 -/
def nxd_bolder_8 : ab_CN := ([(2, 0, 0), (0, 1, 0), (0, 2, 0), (0, 3, 0), (0, 4, 0), (0, 5, 0)], [(0, 0), ((-2147483648), 2147483647), ((-2147483648), 2147483647), (7, 7), ((-2147483648), 2147483647), ((-2147483648), 2147483647)], [], [], [([(1, 0, 1)], [(0, 0), (2, 2), (2, 2), (7, 7), (9, 9), (1, 1)], [], [], [(90, 1000000), (91, 1000000)]),
    ([(1, 0, 1)], [(0, 0), (2, 2), (2, 2), (7, 7), (9, 9), (0, 0)], [], [], [(90, 1000000), (91, 1000000)]),
    ([(1, 0, 9)], [(0, 0), (2, 2), (2, 2), (7, 7), (8, 8), (1, 1)], [], [], [(90, 1000000), (91, 1000000)]),
    ([(1, 0, 8)], [(0, 0), (2, 2), (2, 2), (7, 7), (8, 8), (0, 0)], [], [], [(90, 1000000), (91, 1000000)]),
    ([(1, 0, 9)], [(0, 0), (2, 2), (2, 2), (7, 7), (7, 7), (1, 1)], [], [], [(90, 1000000), (91, 1000000)]),
    ([(1, 0, 7)], [(0, 0), (2, 2), (2, 2), (7, 7), (7, 7), (0, 0)], [], [], [(90, 1000000), (91, 1000000)]),
    ([(1, 0, 9)], [(0, 0), (2, 2), (2, 2), (7, 7), (6, 6), (1, 1)], [], [], [(90, 1000000), (91, 1000000)]),
    ([(1, 0, 7)], [(0, 0), (2, 2), (2, 2), (7, 7), (6, 6), (0, 0)], [], [], [(90, 1000000), (91, 1000000)]),
    ([(1, 0, 9)], [(0, 0), (2, 2), (2, 2), (7, 7), (5, 5), (1, 1)], [], [], [(90, 1000000), (91, 1000000)]),
    ([(1, 0, 7)], [(0, 0), (2, 2), (2, 2), (7, 7), (5, 5), (0, 0)], [], [], [(90, 1000000), (91, 1000000)]),
    ([(1, 0, 9)], [(0, 0), (2, 2), (2, 2), (7, 7), (4, 4), (1, 1)], [], [], [(90, 1000000), (91, 1000000)]),
    ([(1, 0, 7)], [(0, 0), (2, 2), (2, 2), (7, 7), (4, 4), (0, 0)], [], [], [(90, 1000000), (91, 1000000)]),
    ([(1, 0, 9)], [(0, 0), (2, 2), (2, 2), (7, 7), (3, 3), (1, 1)], [], [], [(90, 1000000), (91, 1000000)]),
    ([(1, 0, 7)], [(0, 0), (2, 2), (2, 2), (7, 7), (3, 3), (0, 0)], [], [], [(90, 1000000), (91, 1000000)]),
    ([(1, 0, 9)], [(0, 0), (2, 2), (2, 2), (7, 7), (2, 2), (1, 1)], [], [], [(90, 1000000), (91, 1000000)]),
    ([(1, 0, 7)], [(0, 0), (2, 2), (2, 2), (7, 7), (2, 2), (0, 0)], [], [], [(90, 1000000), (91, 1000000)]),
    ([(1, 0, 9)], [(0, 0), (2, 2), (2, 2), (7, 7), (1, 1), (1, 1)], [], [], [(90, 1000000), (91, 1000000)]),
    ([(1, 0, 7)], [(0, 0), (2, 2), (2, 2), (7, 7), (1, 1), (0, 0)], [], [], [(90, 1000000), (91, 1000000)]),
    ([(1, 0, 9)], [(0, 0), (2, 2), (2, 2), (7, 7), (0, 0), (1, 1)], [], [], [(90, 1000000), (91, 1000000)]),
    ([(1, 0, 7)], [(0, 0), (2, 2), (2, 2), (7, 7), (0, 0), (0, 0)], [], [], [(90, 1000000), (91, 1000000)]),
    ([(1, 0, 1)], [(0, 0), (2, 2), (1, 1), (7, 7), (9, 9), (1, 1)], [], [], [(90, 1000000), (91, 1000000)]),
    ([(1, 0, 1)], [(0, 0), (2, 2), (1, 1), (7, 7), (9, 9), (0, 0)], [], [], [(90, 1000000), (91, 1000000)]),
    ([(1, 0, 81)], [(0, 0), (2, 2), (1, 1), (7, 7), (8, 8), (1, 1)], [], [], [(90, 1000000), (91, 1000000)]),
    ([(1, 0, 79)], [(0, 0), (2, 2), (1, 1), (7, 7), (8, 8), (0, 0)], [], [], [(90, 1000000), (91, 1000000)]),
    ([(1, 0, 81)], [(0, 0), (2, 2), (1, 1), (7, 7), (7, 7), (1, 1)], [], [], [(90, 1000000), (91, 1000000)]),
    ([(1, 0, 77)], [(0, 0), (2, 2), (1, 1), (7, 7), (7, 7), (0, 0)], [], [], [(90, 1000000), (91, 1000000)]),
    ([(1, 0, 81)], [(0, 0), (2, 2), (1, 1), (7, 7), (6, 6), (1, 1)], [], [], [(90, 1000000), (91, 1000000)]),
    ([(1, 0, 77)], [(0, 0), (2, 2), (1, 1), (7, 7), (6, 6), (0, 0)], [], [], [(90, 1000000), (91, 1000000)]),
    ([(1, 0, 81)], [(0, 0), (2, 2), (1, 1), (7, 7), (5, 5), (1, 1)], [], [], [(90, 1000000), (91, 1000000)]),
    ([(1, 0, 77)], [(0, 0), (2, 2), (1, 1), (7, 7), (5, 5), (0, 0)], [], [], [(90, 1000000), (91, 1000000)]),
    ([(1, 0, 81)], [(0, 0), (2, 2), (1, 1), (7, 7), (4, 4), (1, 1)], [], [], [(90, 1000000), (91, 1000000)]),
    ([(1, 0, 77)], [(0, 0), (2, 2), (1, 1), (7, 7), (4, 4), (0, 0)], [], [], [(90, 1000000), (91, 1000000)]),
    ([(1, 0, 81)], [(0, 0), (2, 2), (1, 1), (7, 7), (3, 3), (1, 1)], [], [], [(90, 1000000), (91, 1000000)]),
    ([(1, 0, 77)], [(0, 0), (2, 2), (1, 1), (7, 7), (3, 3), (0, 0)], [], [], [(90, 1000000), (91, 1000000)]),
    ([(1, 0, 81)], [(0, 0), (2, 2), (1, 1), (7, 7), (2, 2), (1, 1)], [], [], [(90, 1000000), (91, 1000000)]),
    ([(1, 0, 77)], [(0, 0), (2, 2), (1, 1), (7, 7), (2, 2), (0, 0)], [], [], [(90, 1000000), (91, 1000000)]),
    ([(1, 0, 81)], [(0, 0), (2, 2), (1, 1), (7, 7), (1, 1), (1, 1)], [], [], [(90, 1000000), (91, 1000000)]),
    ([(1, 0, 77)], [(0, 0), (2, 2), (1, 1), (7, 7), (1, 1), (0, 0)], [], [], [(90, 1000000), (91, 1000000)]),
    ([(1, 0, 81)], [(0, 0), (2, 2), (1, 1), (7, 7), (0, 0), (1, 1)], [], [], [(90, 1000000), (91, 1000000)]),
    ([(1, 0, 77)], [(0, 0), (2, 2), (1, 1), (7, 7), (0, 0), (0, 0)], [], [], [(90, 1000000), (91, 1000000)]),
    ([(1, 0, 1)], [(0, 0), (2, 2), (0, 0), (7, 7), (9, 9), (1, 1)], [], [], [(90, 1000000), (91, 1000000)]),
    ([(1, 0, 1)], [(0, 0), (2, 2), (0, 0), (7, 7), (9, 9), (0, 0)], [], [], [(90, 1000000), (91, 1000000)]),
    ([(1, 0, 729)], [(0, 0), (2, 2), (0, 0), (7, 7), (8, 8), (1, 1)], [], [], [(90, 1000000), (91, 1000000)]),
    ([(1, 0, 725)], [(0, 0), (2, 2), (0, 0), (7, 7), (8, 8), (0, 0)], [], [], [(90, 1000000), (91, 1000000)]),
    ([(1, 0, 729)], [(0, 0), (2, 2), (0, 0), (7, 7), (7, 7), (1, 1)], [], [], [(90, 1000000), (91, 1000000)]),
    ([(1, 0, 721)], [(0, 0), (2, 2), (0, 0), (7, 7), (7, 7), (0, 0)], [], [], [(90, 1000000), (91, 1000000)]),
    ([(1, 0, 729)], [(0, 0), (2, 2), (0, 0), (7, 7), (6, 6), (1, 1)], [], [], [(90, 1000000), (91, 1000000)]),
    ([(1, 0, 721)], [(0, 0), (2, 2), (0, 0), (7, 7), (6, 6), (0, 0)], [], [], [(90, 1000000), (91, 1000000)]),
    ([(1, 0, 729)], [(0, 0), (2, 2), (0, 0), (7, 7), (5, 5), (1, 1)], [], [], [(90, 1000000), (91, 1000000)]),
    ([(1, 0, 721)], [(0, 0), (2, 2), (0, 0), (7, 7), (5, 5), (0, 0)], [], [], [(90, 1000000), (91, 1000000)]),
    ([(1, 0, 729)], [(0, 0), (2, 2), (0, 0), (7, 7), (4, 4), (1, 1)], [], [], [(90, 1000000), (91, 1000000)]),
    ([(1, 0, 721)], [(0, 0), (2, 2), (0, 0), (7, 7), (4, 4), (0, 0)], [], [], [(90, 1000000), (91, 1000000)]),
    ([(1, 0, 729)], [(0, 0), (2, 2), (0, 0), (7, 7), (3, 3), (1, 1)], [], [], [(90, 1000000), (91, 1000000)]),
    ([(1, 0, 721)], [(0, 0), (2, 2), (0, 0), (7, 7), (3, 3), (0, 0)], [], [], [(90, 1000000), (91, 1000000)]),
    ([(1, 0, 729)], [(0, 0), (2, 2), (0, 0), (7, 7), (2, 2), (1, 1)], [], [], [(90, 1000000), (91, 1000000)]),
    ([(1, 0, 721)], [(0, 0), (2, 2), (0, 0), (7, 7), (2, 2), (0, 0)], [], [], [(90, 1000000), (91, 1000000)]),
    ([(1, 0, 729)], [(0, 0), (2, 2), (0, 0), (7, 7), (1, 1), (1, 1)], [], [], [(90, 1000000), (91, 1000000)]),
    ([(1, 0, 721)], [(0, 0), (2, 2), (0, 0), (7, 7), (1, 1), (0, 0)], [], [], [(90, 1000000), (91, 1000000)]),
    ([(1, 0, 729)], [(0, 0), (2, 2), (0, 0), (7, 7), (0, 0), (1, 1)], [], [], [(90, 1000000), (91, 1000000)]),
    ([(1, 0, 721)], [(0, 0), (2, 2), (0, 0), (7, 7), (0, 0), (0, 0)], [], [], [(90, 1000000), (91, 1000000)]),
    ([(1, 0, 1)], [(0, 0), (1, 1), (2, 2), (7, 7), (9, 9), (1, 1)], [], [], [(90, 1000000), (91, 1000000)]),
    ([(1, 0, 1)], [(0, 0), (1, 1), (2, 2), (7, 7), (9, 9), (0, 0)], [], [], [(90, 1000000), (91, 1000000)]),
    ([(1, 0, 9)], [(0, 0), (1, 1), (2, 2), (7, 7), (8, 8), (1, 1)], [], [], [(90, 1000000), (91, 1000000)]),
    ([(1, 0, 8)], [(0, 0), (1, 1), (2, 2), (7, 7), (8, 8), (0, 0)], [], [], [(90, 1000000), (91, 1000000)]),
    ([(1, 0, 9)], [(0, 0), (1, 1), (2, 2), (7, 7), (7, 7), (1, 1)], [], [], [(90, 1000000), (91, 1000000)]),
    ([(1, 0, 7)], [(0, 0), (1, 1), (2, 2), (7, 7), (7, 7), (0, 0)], [], [], [(90, 1000000), (91, 1000000)]),
    ([(1, 0, 3)], [(0, 0), (1, 1), (2, 2), (7, 7), (6, 6), (1, 1)], [], [], [(90, 1000000), (91, 1000000)]),
    ([(1, 0, 2)], [(0, 0), (1, 1), (2, 2), (7, 7), (6, 6), (0, 0)], [], [], [(90, 1000000), (91, 1000000)]),
    ([(1, 0, 81)], [(0, 0), (1, 1), (2, 2), (7, 7), (5, 5), (1, 1)], [], [], [(90, 1000000), (91, 1000000)]),
    ([(1, 0, 49)], [(0, 0), (1, 1), (2, 2), (7, 7), (5, 5), (0, 0)], [], [], [(90, 1000000), (91, 1000000)]),
    ([(1, 0, 81)], [(0, 0), (1, 1), (2, 2), (7, 7), (4, 4), (1, 1)], [], [], [(90, 1000000), (91, 1000000)]),
    ([(1, 0, 49)], [(0, 0), (1, 1), (2, 2), (7, 7), (4, 4), (0, 0)], [], [], [(90, 1000000), (91, 1000000)]),
    ([(1, 0, 81)], [(0, 0), (1, 1), (2, 2), (7, 7), (3, 3), (1, 1)], [], [], [(90, 1000000), (91, 1000000)]),
    ([(1, 0, 49)], [(0, 0), (1, 1), (2, 2), (7, 7), (3, 3), (0, 0)], [], [], [(90, 1000000), (91, 1000000)]),
    ([(1, 0, 81)], [(0, 0), (1, 1), (2, 2), (7, 7), (2, 2), (1, 1)], [], [], [(90, 1000000), (91, 1000000)]),
    ([(1, 0, 49)], [(0, 0), (1, 1), (2, 2), (7, 7), (2, 2), (0, 0)], [], [], [(90, 1000000), (91, 1000000)]),
    ([(1, 0, 81)], [(0, 0), (1, 1), (2, 2), (7, 7), (1, 1), (1, 1)], [], [], [(90, 1000000), (91, 1000000)]),
    ([(1, 0, 49)], [(0, 0), (1, 1), (2, 2), (7, 7), (1, 1), (0, 0)], [], [], [(90, 1000000), (91, 1000000)]),
    ([(1, 0, 81)], [(0, 0), (1, 1), (2, 2), (7, 7), (0, 0), (1, 1)], [], [], [(90, 1000000), (91, 1000000)]),
    ([(1, 0, 49)], [(0, 0), (1, 1), (2, 2), (7, 7), (0, 0), (0, 0)], [], [], [(90, 1000000), (91, 1000000)]),
    ([(1, 0, 1)], [(0, 0), (1, 1), (1, 1), (7, 7), (9, 9), (1, 1)], [], [], [(90, 1000000), (91, 1000000)]),
    ([(1, 0, 1)], [(0, 0), (1, 1), (1, 1), (7, 7), (9, 9), (0, 0)], [], [], [(90, 1000000), (91, 1000000)]),
    ([(1, 0, 729)], [(0, 0), (1, 1), (1, 1), (7, 7), (8, 8), (1, 1)], [], [], [(90, 1000000), (91, 1000000)]),
    ([(1, 0, 697)], [(0, 0), (1, 1), (1, 1), (7, 7), (8, 8), (0, 0)], [], [], [(90, 1000000), (91, 1000000)]),
    ([(1, 0, 729)], [(0, 0), (1, 1), (1, 1), (7, 7), (7, 7), (1, 1)], [], [], [(90, 1000000), (91, 1000000)]),
    ([(1, 0, 665)], [(0, 0), (1, 1), (1, 1), (7, 7), (7, 7), (0, 0)], [], [], [(90, 1000000), (91, 1000000)]),
    ([(1, 0, 729)], [(0, 0), (1, 1), (1, 1), (7, 7), (6, 6), (1, 1)], [], [], [(90, 1000000), (91, 1000000)]),
    ([(1, 0, 647)], [(0, 0), (1, 1), (1, 1), (7, 7), (6, 6), (0, 0)], [], [], [(90, 1000000), (91, 1000000)]),
    ([(1, 0, 729)], [(0, 0), (1, 1), (1, 1), (7, 7), (5, 5), (1, 1)], [], [], [(90, 1000000), (91, 1000000)]),
    ([(1, 0, 637)], [(0, 0), (1, 1), (1, 1), (7, 7), (5, 5), (0, 0)], [], [], [(90, 1000000), (91, 1000000)]),
    ([(1, 0, 729)], [(0, 0), (1, 1), (1, 1), (7, 7), (4, 4), (1, 1)], [], [], [(90, 1000000), (91, 1000000)]),
    ([(1, 0, 637)], [(0, 0), (1, 1), (1, 1), (7, 7), (4, 4), (0, 0)], [], [], [(90, 1000000), (91, 1000000)]),
    ([(1, 0, 729)], [(0, 0), (1, 1), (1, 1), (7, 7), (3, 3), (1, 1)], [], [], [(90, 1000000), (91, 1000000)]),
    ([(1, 0, 637)], [(0, 0), (1, 1), (1, 1), (7, 7), (3, 3), (0, 0)], [], [], [(90, 1000000), (91, 1000000)]),
    ([(1, 0, 729)], [(0, 0), (1, 1), (1, 1), (7, 7), (2, 2), (1, 1)], [], [], [(90, 1000000), (91, 1000000)]),
    ([(1, 0, 637)], [(0, 0), (1, 1), (1, 1), (7, 7), (2, 2), (0, 0)], [], [], [(90, 1000000), (91, 1000000)]),
    ([(1, 0, 729)], [(0, 0), (1, 1), (1, 1), (7, 7), (1, 1), (1, 1)], [], [], [(90, 1000000), (91, 1000000)]),
    ([(1, 0, 637)], [(0, 0), (1, 1), (1, 1), (7, 7), (1, 1), (0, 0)], [], [], [(90, 1000000), (91, 1000000)]),
    ([(1, 0, 729)], [(0, 0), (1, 1), (1, 1), (7, 7), (0, 0), (1, 1)], [], [], [(90, 1000000), (91, 1000000)]),
    ([(1, 0, 637)], [(0, 0), (1, 1), (1, 1), (7, 7), (0, 0), (0, 0)], [], [], [(90, 1000000), (91, 1000000)]),
    ([(1, 0, 1)], [(0, 0), (1, 1), (0, 0), (7, 7), (9, 9), (1, 1)], [], [], [(90, 1000000), (91, 1000000)]),
    ([(1, 0, 1)], [(0, 0), (1, 1), (0, 0), (7, 7), (9, 9), (0, 0)], [], [], [(90, 1000000), (91, 1000000)]),
    ([(1, 0, 81)], [(0, 0), (1, 1), (0, 0), (7, 7), (8, 8), (1, 1)], [], [], [(90, 1000000), (91, 1000000)]),
    ([(1, 0, 80)], [(0, 0), (1, 1), (0, 0), (7, 7), (8, 8), (0, 0)], [], [], [(90, 1000000), (91, 1000000)]),
    ([(1, 0, 6561)], [(0, 0), (1, 1), (0, 0), (7, 7), (7, 7), (1, 1)], [], [], [(90, 1000000), (91, 1000000)]),
    ([(1, 0, 6377)], [(0, 0), (1, 1), (0, 0), (7, 7), (7, 7), (0, 0)], [], [], [(90, 1000000), (91, 1000000)]),
    ([(1, 0, 6561)], [(0, 0), (1, 1), (0, 0), (7, 7), (6, 6), (1, 1)], [], [], [(90, 1000000), (91, 1000000)]),
    ([(1, 0, 6341)], [(0, 0), (1, 1), (0, 0), (7, 7), (6, 6), (0, 0)], [], [], [(90, 1000000), (91, 1000000)]),
    ([(1, 0, 2187)], [(0, 0), (1, 1), (0, 0), (7, 7), (5, 5), (1, 1)], [], [], [(90, 1000000), (91, 1000000)]),
    ([(1, 0, 2107)], [(0, 0), (1, 1), (0, 0), (7, 7), (5, 5), (0, 0)], [], [], [(90, 1000000), (91, 1000000)]),
    ([(1, 0, 2187)], [(0, 0), (1, 1), (0, 0), (7, 7), (4, 4), (1, 1)], [], [], [(90, 1000000), (91, 1000000)]),
    ([(1, 0, 2107)], [(0, 0), (1, 1), (0, 0), (7, 7), (4, 4), (0, 0)], [], [], [(90, 1000000), (91, 1000000)]),
    ([(1, 0, 2187)], [(0, 0), (1, 1), (0, 0), (7, 7), (3, 3), (1, 1)], [], [], [(90, 1000000), (91, 1000000)]),
    ([(1, 0, 2107)], [(0, 0), (1, 1), (0, 0), (7, 7), (3, 3), (0, 0)], [], [], [(90, 1000000), (91, 1000000)]),
    ([(1, 0, 2187)], [(0, 0), (1, 1), (0, 0), (7, 7), (2, 2), (1, 1)], [], [], [(90, 1000000), (91, 1000000)]),
    ([(1, 0, 2107)], [(0, 0), (1, 1), (0, 0), (7, 7), (2, 2), (0, 0)], [], [], [(90, 1000000), (91, 1000000)]),
    ([(1, 0, 2187)], [(0, 0), (1, 1), (0, 0), (7, 7), (1, 1), (1, 1)], [], [], [(90, 1000000), (91, 1000000)]),
    ([(1, 0, 2107)], [(0, 0), (1, 1), (0, 0), (7, 7), (1, 1), (0, 0)], [], [], [(90, 1000000), (91, 1000000)]),
    ([(1, 0, 2187)], [(0, 0), (1, 1), (0, 0), (7, 7), (0, 0), (1, 1)], [], [], [(90, 1000000), (91, 1000000)]),
    ([(1, 0, 2107)], [(0, 0), (1, 1), (0, 0), (7, 7), (0, 0), (0, 0)], [], [], [(90, 1000000), (91, 1000000)]),
    ([(1, 0, 1)], [(0, 0), (0, 0), (2, 2), (7, 7), (9, 9), (1, 1)], [], [], [(90, 1000000), (91, 1000000)]),
    ([(1, 0, 1)], [(0, 0), (0, 0), (2, 2), (7, 7), (9, 9), (0, 0)], [], [], [(90, 1000000), (91, 1000000)]),
    ([(1, 0, 81)], [(0, 0), (0, 0), (2, 2), (7, 7), (8, 8), (1, 1)], [], [], [(90, 1000000), (91, 1000000)]),
    ([(1, 0, 64)], [(0, 0), (0, 0), (2, 2), (7, 7), (8, 8), (0, 0)], [], [], [(90, 1000000), (91, 1000000)]),
    ([(1, 0, 81)], [(0, 0), (0, 0), (2, 2), (7, 7), (7, 7), (1, 1)], [], [], [(90, 1000000), (91, 1000000)]),
    ([(1, 0, 49)], [(0, 0), (0, 0), (2, 2), (7, 7), (7, 7), (0, 0)], [], [], [(90, 1000000), (91, 1000000)]),
    ([(1, 0, 27)], [(0, 0), (0, 0), (2, 2), (7, 7), (6, 6), (1, 1)], [], [], [(90, 1000000), (91, 1000000)]),
    ([(1, 0, 14)], [(0, 0), (0, 0), (2, 2), (7, 7), (6, 6), (0, 0)], [], [], [(90, 1000000), (91, 1000000)]),
    ([(1, 0, 729)], [(0, 0), (0, 0), (2, 2), (7, 7), (5, 5), (1, 1)], [], [], [(90, 1000000), (91, 1000000)]),
    ([(1, 0, 343)], [(0, 0), (0, 0), (2, 2), (7, 7), (5, 5), (0, 0)], [], [], [(90, 1000000), (91, 1000000)]),
    ([(1, 0, 729)], [(0, 0), (0, 0), (2, 2), (7, 7), (4, 4), (1, 1)], [], [], [(90, 1000000), (91, 1000000)]),
    ([(1, 0, 343)], [(0, 0), (0, 0), (2, 2), (7, 7), (4, 4), (0, 0)], [], [], [(90, 1000000), (91, 1000000)]),
    ([(1, 0, 729)], [(0, 0), (0, 0), (2, 2), (7, 7), (3, 3), (1, 1)], [], [], [(90, 1000000), (91, 1000000)]),
    ([(1, 0, 343)], [(0, 0), (0, 0), (2, 2), (7, 7), (3, 3), (0, 0)], [], [], [(90, 1000000), (91, 1000000)]),
    ([(1, 0, 729)], [(0, 0), (0, 0), (2, 2), (7, 7), (2, 2), (1, 1)], [], [], [(90, 1000000), (91, 1000000)]),
    ([(1, 0, 343)], [(0, 0), (0, 0), (2, 2), (7, 7), (2, 2), (0, 0)], [], [], [(90, 1000000), (91, 1000000)]),
    ([(1, 0, 729)], [(0, 0), (0, 0), (2, 2), (7, 7), (1, 1), (1, 1)], [], [], [(90, 1000000), (91, 1000000)]),
    ([(1, 0, 343)], [(0, 0), (0, 0), (2, 2), (7, 7), (1, 1), (0, 0)], [], [], [(90, 1000000), (91, 1000000)]),
    ([(1, 0, 729)], [(0, 0), (0, 0), (2, 2), (7, 7), (0, 0), (1, 1)], [], [], [(90, 1000000), (91, 1000000)]),
    ([(1, 0, 343)], [(0, 0), (0, 0), (2, 2), (7, 7), (0, 0), (0, 0)], [], [], [(90, 1000000), (91, 1000000)]),
    ([(1, 0, 1)], [(0, 0), (0, 0), (1, 1), (7, 7), (9, 9), (1, 1)], [], [], [(90, 1000000), (91, 1000000)]),
    ([(1, 0, 1)], [(0, 0), (0, 0), (1, 1), (7, 7), (9, 9), (0, 0)], [], [], [(90, 1000000), (91, 1000000)]),
    ([(1, 0, 6561)], [(0, 0), (0, 0), (1, 1), (7, 7), (8, 8), (1, 1)], [], [], [(90, 1000000), (91, 1000000)]),
    ([(1, 0, 6031)], [(0, 0), (0, 0), (1, 1), (7, 7), (8, 8), (0, 0)], [], [], [(90, 1000000), (91, 1000000)]),
    ([(1, 0, 6561)], [(0, 0), (0, 0), (1, 1), (7, 7), (7, 7), (1, 1)], [], [], [(90, 1000000), (91, 1000000)]),
    ([(1, 0, 5537)], [(0, 0), (0, 0), (1, 1), (7, 7), (7, 7), (0, 0)], [], [], [(90, 1000000), (91, 1000000)]),
    ([(1, 0, 6561)], [(0, 0), (0, 0), (1, 1), (7, 7), (6, 6), (1, 1)], [], [], [(90, 1000000), (91, 1000000)]),
    ([(1, 0, 5285)], [(0, 0), (0, 0), (1, 1), (7, 7), (6, 6), (0, 0)], [], [], [(90, 1000000), (91, 1000000)]),
    ([(1, 0, 2187)], [(0, 0), (0, 0), (1, 1), (7, 7), (5, 5), (1, 1)], [], [], [(90, 1000000), (91, 1000000)]),
    ([(1, 0, 1715)], [(0, 0), (0, 0), (1, 1), (7, 7), (5, 5), (0, 0)], [], [], [(90, 1000000), (91, 1000000)]),
    ([(1, 0, 2187)], [(0, 0), (0, 0), (1, 1), (7, 7), (4, 4), (1, 1)], [], [], [(90, 1000000), (91, 1000000)]),
    ([(1, 0, 1715)], [(0, 0), (0, 0), (1, 1), (7, 7), (4, 4), (0, 0)], [], [], [(90, 1000000), (91, 1000000)]),
    ([(1, 0, 2187)], [(0, 0), (0, 0), (1, 1), (7, 7), (3, 3), (1, 1)], [], [], [(90, 1000000), (91, 1000000)]),
    ([(1, 0, 1715)], [(0, 0), (0, 0), (1, 1), (7, 7), (3, 3), (0, 0)], [], [], [(90, 1000000), (91, 1000000)]),
    ([(1, 0, 2187)], [(0, 0), (0, 0), (1, 1), (7, 7), (2, 2), (1, 1)], [], [], [(90, 1000000), (91, 1000000)]),
    ([(1, 0, 1715)], [(0, 0), (0, 0), (1, 1), (7, 7), (2, 2), (0, 0)], [], [], [(90, 1000000), (91, 1000000)]),
    ([(1, 0, 2187)], [(0, 0), (0, 0), (1, 1), (7, 7), (1, 1), (1, 1)], [], [], [(90, 1000000), (91, 1000000)]),
    ([(1, 0, 1715)], [(0, 0), (0, 0), (1, 1), (7, 7), (1, 1), (0, 0)], [], [], [(90, 1000000), (91, 1000000)]),
    ([(1, 0, 2187)], [(0, 0), (0, 0), (1, 1), (7, 7), (0, 0), (1, 1)], [], [], [(90, 1000000), (91, 1000000)]),
    ([(1, 0, 1715)], [(0, 0), (0, 0), (1, 1), (7, 7), (0, 0), (0, 0)], [], [], [(90, 1000000), (91, 1000000)]),
    ([(1, 0, 1)], [(0, 0), (0, 0), (0, 0), (7, 7), (9, 9), (1, 1)], [], [], [(90, 1000000), (91, 1000000)]),
    ([(1, 0, 1)], [(0, 0), (0, 0), (0, 0), (7, 7), (9, 9), (0, 0)], [], [], [(90, 1000000), (91, 1000000)]),
    ([(1, 0, 59049)], [(0, 0), (0, 0), (0, 0), (7, 7), (8, 8), (1, 1)], [], [], [(90, 1000000), (91, 1000000)]),
    ([(1, 0, 57422)], [(0, 0), (0, 0), (0, 0), (7, 7), (8, 8), (0, 0)], [], [], [(90, 1000000), (91, 1000000)]),
    ([(1, 0, 19683)], [(0, 0), (0, 0), (0, 0), (7, 7), (7, 7), (1, 1)], [], [], [(90, 1000000), (91, 1000000)]),
    ([(1, 0, 18571)], [(0, 0), (0, 0), (0, 0), (7, 7), (7, 7), (0, 0)], [], [], [(90, 1000000), (91, 1000000)]),
    ([(1, 0, 19683)], [(0, 0), (0, 0), (0, 0), (7, 7), (6, 6), (1, 1)], [], [], [(90, 1000000), (91, 1000000)]),
    ([(1, 0, 18319)], [(0, 0), (0, 0), (0, 0), (7, 7), (6, 6), (0, 0)], [], [], [(90, 1000000), (91, 1000000)]),
    ([(1, 0, 19683)], [(0, 0), (0, 0), (0, 0), (7, 7), (5, 5), (1, 1)], [], [], [(90, 1000000), (91, 1000000)]),
    ([(1, 0, 18179)], [(0, 0), (0, 0), (0, 0), (7, 7), (5, 5), (0, 0)], [], [], [(90, 1000000), (91, 1000000)]),
    ([(1, 0, 19683)], [(0, 0), (0, 0), (0, 0), (7, 7), (4, 4), (1, 1)], [], [], [(90, 1000000), (91, 1000000)]),
    ([(1, 0, 18179)], [(0, 0), (0, 0), (0, 0), (7, 7), (4, 4), (0, 0)], [], [], [(90, 1000000), (91, 1000000)]),
    ([(1, 0, 19683)], [(0, 0), (0, 0), (0, 0), (7, 7), (3, 3), (1, 1)], [], [], [(90, 1000000), (91, 1000000)]),
    ([(1, 0, 18179)], [(0, 0), (0, 0), (0, 0), (7, 7), (3, 3), (0, 0)], [], [], [(90, 1000000), (91, 1000000)]),
    ([(1, 0, 19683)], [(0, 0), (0, 0), (0, 0), (7, 7), (2, 2), (1, 1)], [], [], [(90, 1000000), (91, 1000000)]),
    ([(1, 0, 18179)], [(0, 0), (0, 0), (0, 0), (7, 7), (2, 2), (0, 0)], [], [], [(90, 1000000), (91, 1000000)]),
    ([(1, 0, 19683)], [(0, 0), (0, 0), (0, 0), (7, 7), (1, 1), (1, 1)], [], [], [(90, 1000000), (91, 1000000)]),
    ([(1, 0, 18179)], [(0, 0), (0, 0), (0, 0), (7, 7), (1, 1), (0, 0)], [], [], [(90, 1000000), (91, 1000000)]),
    ([(1, 0, 19683)], [(0, 0), (0, 0), (0, 0), (7, 7), (0, 0), (1, 1)], [], [], [(90, 1000000), (91, 1000000)]),
    ([(1, 0, 18179)], [(0, 0), (0, 0), (0, 0), (7, 7), (0, 0), (0, 0)], [], [], [(90, 1000000), (91, 1000000)])])
def nxo_bolder_8 : List ab_OU := [([], [(0, 0), ((-2147483648), (-1)), ((-2147483648), 2147483647), (7, 7), ((-2147483648), 2147483647), ((-2147483648), 2147483647)], [], [], []),
    ([], [(0, 0), (3, 2147483647), ((-2147483648), 2147483647), (7, 7), ((-2147483648), 2147483647), ((-2147483648), 2147483647)], [], [], []),
    ([], [(0, 0), (0, 2), ((-2147483648), (-1)), (7, 7), ((-2147483648), 2147483647), ((-2147483648), 2147483647)], [], [], []),
    ([], [(0, 0), (0, 2), (3, 2147483647), (7, 7), ((-2147483648), 2147483647), ((-2147483648), 2147483647)], [], [], []),
    ([], [(0, 0), (0, 2), (0, 2), (7, 7), ((-2147483648), (-1)), ((-2147483648), 2147483647)], [], [], []),
    ([], [(0, 0), (0, 2), (0, 2), (7, 7), (10, 2147483647), ((-2147483648), 2147483647)], [], [], []),
    ([], [(0, 0), (0, 2), (0, 2), (7, 7), (0, 9), ((-2147483648), (-1))], [], [], []),
    ([], [(0, 0), (0, 2), (0, 2), (7, 7), (0, 9), (2, 2147483647)], [], [], [])]
def nxe_bolder_8_0 : ab_ND := (37, ([(0, (2, 0, 0)), (1, (0, 1, 0)), (2, (0, 2, 0)), (3, (0, 3, 0)), (4, (0, 4, 0)), (5, (0, 5, 0))], [], [(0, 0), ((-2147483648), (-1)), ((-2147483648), 2147483647), (7, 7), ((-2147483648), 2147483647), ((-2147483648), 2147483647)], [], [], []), ((0, [], []), (0, [], []), (0, [], [])))
def nxe_bolder_8_1 : ab_ND := (37, ([(0, (2, 0, 0)), (1, (0, 1, 0)), (2, (0, 2, 0)), (3, (0, 3, 0)), (4, (0, 4, 0)), (5, (0, 5, 0))], [], [(0, 0), (3, 2147483647), ((-2147483648), 2147483647), (7, 7), ((-2147483648), 2147483647), ((-2147483648), 2147483647)], [], [], []), ((0, [], []), (0, [], []), (0, [], [])))
def nxe_bolder_8_2 : ab_ND := (37, ([(0, (2, 0, 0)), (1, (0, 1, 0)), (2, (0, 2, 0)), (3, (0, 3, 0)), (4, (0, 4, 0)), (5, (0, 5, 0))], [], [(0, 0), (0, 2), ((-2147483648), (-1)), (7, 7), ((-2147483648), 2147483647), ((-2147483648), 2147483647)], [], [], []), ((0, [], []), (0, [], []), (0, [], [])))
def nxe_bolder_8_3 : ab_ND := (37, ([(0, (2, 0, 0)), (1, (0, 1, 0)), (2, (0, 2, 0)), (3, (0, 3, 0)), (4, (0, 4, 0)), (5, (0, 5, 0))], [], [(0, 0), (0, 2), (3, 2147483647), (7, 7), ((-2147483648), 2147483647), ((-2147483648), 2147483647)], [], [], []), ((0, [], []), (0, [], []), (0, [], [])))
def nxe_bolder_8_4 : ab_ND := (37, ([(0, (2, 0, 0)), (1, (0, 1, 0)), (2, (0, 2, 0)), (3, (0, 3, 0)), (4, (0, 4, 0)), (5, (0, 5, 0))], [], [(0, 0), (0, 2), (0, 2), (7, 7), ((-2147483648), (-1)), ((-2147483648), 2147483647)], [], [], []), ((0, [], []), (0, [], []), (0, [], [])))
def nxe_bolder_8_5 : ab_ND := (37, ([(0, (2, 0, 0)), (1, (0, 1, 0)), (2, (0, 2, 0)), (3, (0, 3, 0)), (4, (0, 4, 0)), (5, (0, 5, 0))], [], [(0, 0), (0, 2), (0, 2), (7, 7), (10, 2147483647), ((-2147483648), 2147483647)], [], [], []), ((0, [], []), (0, [], []), (0, [], [])))
def nxe_bolder_8_6 : ab_ND := (37, ([(0, (2, 0, 0)), (1, (0, 1, 0)), (2, (0, 2, 0)), (3, (0, 3, 0)), (4, (0, 4, 0)), (5, (0, 5, 0))], [], [(0, 0), (0, 2), (0, 2), (7, 7), (0, 9), ((-2147483648), (-1))], [], [], []), ((0, [], []), (0, [], []), (0, [], [])))
def nxe_bolder_8_7 : ab_ND := (37, ([(0, (2, 0, 0)), (1, (0, 1, 0)), (2, (0, 2, 0)), (3, (0, 3, 0)), (4, (0, 4, 0)), (5, (0, 5, 0))], [], [(0, 0), (0, 2), (0, 2), (7, 7), (0, 9), (2, 2147483647)], [], [], []), ((0, [], []), (0, [], []), (0, [], [])))
def nxm_bolder_8_0 : ab_ND := (0, (ab_en0 0 nxd_bolder_8.1, [], nxd_bolder_8.2.1, nxd_bolder_8.2.2.1, nxd_bolder_8.2.2.2.1, []), ((9000000000000000000000, [], []), (0, [], []), (0, [], [])))
def nxm_bolder_8_1 : ab_ND := (48, ([(0, (2, 0, 0)), (1, (0, 0, 2)), (2, (0, 0, 2)), (3, (0, 0, 7)), (4, (0, 4, 0)), (5, (0, 5, 0))], [(2, 0, 0)], [(0, 0), (2, 2), (2, 2), (7, 7), (0, 9), (0, 1)], [], [], []), ((0, [], []), (0, [], []), (0, [], [])))
def nxm_bolder_8_2 : ab_ND := (48, ([(0, (2, 0, 0)), (1, (0, 0, 2)), (2, (0, 0, 1)), (3, (0, 0, 7)), (4, (0, 4, 0)), (5, (0, 5, 0))], [(2, 0, 0)], [(0, 0), (2, 2), (1, 1), (7, 7), (0, 9), (0, 1)], [], [], []), ((1000000000000000000000, [], []), (0, [], []), (0, [], [])))
def nxm_bolder_8_3 : ab_ND := (48, ([(0, (2, 0, 0)), (1, (0, 0, 2)), (2, (0, 0, 0)), (3, (0, 0, 7)), (4, (0, 4, 0)), (5, (0, 5, 0))], [(2, 0, 0)], [(0, 0), (2, 2), (0, 0), (7, 7), (0, 9), (0, 1)], [], [], []), ((2000000000000000000000, [], []), (0, [], []), (0, [], [])))
def nxm_bolder_8_4 : ab_ND := (48, ([(0, (2, 0, 0)), (1, (0, 0, 1)), (2, (0, 0, 2)), (3, (0, 0, 7)), (4, (0, 4, 0)), (5, (0, 5, 0))], [(2, 0, 0)], [(0, 0), (1, 1), (2, 2), (7, 7), (0, 9), (0, 1)], [], [], []), ((3000000000000000000000, [], []), (0, [], []), (0, [], [])))
def nxm_bolder_8_5 : ab_ND := (48, ([(0, (2, 0, 0)), (1, (0, 0, 1)), (2, (0, 0, 1)), (3, (0, 0, 7)), (4, (0, 4, 0)), (5, (0, 5, 0))], [(2, 0, 0)], [(0, 0), (1, 1), (1, 1), (7, 7), (0, 9), (0, 1)], [], [], []), ((4000000000000000000000, [], []), (0, [], []), (0, [], [])))
def nxm_bolder_8_6 : ab_ND := (48, ([(0, (2, 0, 0)), (1, (0, 0, 1)), (2, (0, 0, 0)), (3, (0, 0, 7)), (4, (0, 4, 0)), (5, (0, 5, 0))], [(2, 0, 0)], [(0, 0), (1, 1), (0, 0), (7, 7), (0, 9), (0, 1)], [], [], []), ((5000000000000000000000, [], []), (0, [], []), (0, [], [])))
def nxm_bolder_8_7 : ab_ND := (48, ([(0, (2, 0, 0)), (1, (0, 0, 0)), (2, (0, 0, 2)), (3, (0, 0, 7)), (4, (0, 4, 0)), (5, (0, 5, 0))], [(2, 0, 0)], [(0, 0), (0, 0), (2, 2), (7, 7), (0, 9), (0, 1)], [], [], []), ((6000000000000000000000, [], []), (0, [], []), (0, [], [])))
def nxm_bolder_8_8 : ab_ND := (48, ([(0, (2, 0, 0)), (1, (0, 0, 0)), (2, (0, 0, 1)), (3, (0, 0, 7)), (4, (0, 4, 0)), (5, (0, 5, 0))], [(2, 0, 0)], [(0, 0), (0, 0), (1, 1), (7, 7), (0, 9), (0, 1)], [], [], []), ((7000000000000000000000, [], []), (0, [], []), (0, [], [])))
def nxm_bolder_8_9 : ab_ND := (48, ([(0, (2, 0, 0)), (1, (0, 0, 0)), (2, (0, 0, 0)), (3, (0, 0, 7)), (4, (0, 4, 0)), (5, (0, 5, 0))], [(2, 0, 0)], [(0, 0), (0, 0), (0, 0), (7, 7), (0, 9), (0, 1)], [], [], []), ((8000000000000000000000, [], []), (0, [], []), (0, [], [])))
def nxn_bolder_8 : List ab_ND := [nxm_bolder_8_0, nxm_bolder_8_1, nxm_bolder_8_2, nxm_bolder_8_3, nxm_bolder_8_4, nxm_bolder_8_5, nxm_bolder_8_6, nxm_bolder_8_7, nxm_bolder_8_8, nxm_bolder_8_9]
def nxk_bolder_8 : ab_KS := [(136, 0, le_736), (81, 0, le_737), (55, 0, le_738), (138, 1, le_747), (138, 1, le_753), (138, 1, le_762), (138, 1, le_766), (138, 1, le_768), (138, 1, le_776), (138, 1, le_780), (138, 1, le_782), (193, 0, le_786), (193, 0, le_787), (193, 0, le_789), (193, 0, le_790), (193, 0, le_792), (193, 0, le_793), (193, 0, le_795), (193, 0, le_796), (193, 0, le_815), (193, 0, le_816), (193, 0, le_817), (193, 0, le_818), (193, 0, le_827), (193, 0, le_828), (193, 0, le_829), (193, 0, le_830), (138, 1, le_840), (193, 0, le_843), (193, 0, le_844), (193, 0, le_1111), (193, 0, le_1112), (193, 0, le_1115), (193, 0, le_1116), (193, 0, le_1179), (193, 0, le_1180), (137, 2, le_1195), (137, 2, le_1196), (137, 2, le_1197), (137, 2, le_1198), (137, 2, le_1199), (137, 2, le_1200), (137, 2, le_1201), (137, 2, le_1202), (137, 2, le_1203), (137, 2, le_1204), (193, 0, le_1205), (193, 0, le_1206), (193, 0, le_1207), (193, 0, le_1208), (193, 0, le_1209), (193, 0, le_1210), (193, 0, le_1211), (193, 0, le_1212), (193, 0, le_1213), (193, 0, le_1214), (193, 0, le_1215), (193, 0, le_1216), (193, 0, le_1217), (193, 0, le_1218), (193, 0, le_1219), (193, 0, le_1220), (193, 0, le_1221), (193, 0, le_1222), (193, 0, le_1223), (193, 0, le_1224), (193, 0, le_1225), (193, 0, le_1226), (193, 0, le_1227), (193, 0, le_1228), (193, 0, le_1229), (193, 0, le_1230), (193, 0, le_1231), (193, 0, le_1232), (193, 0, le_1233), (193, 0, le_1234), (193, 0, le_1235), (193, 0, le_1236)]
theorem nxc_bolder_8_0 : ab_cn vwCl nn_T nn_C nn_sh nn_MT (nn_KI1.map (fun x => x.1)) (nn_KJ1.map (fun x => x.1)) (nn_PF1.map (fun x => x.1)) nn_kd (nn_PS1.map (fun x => x.1)) (nn_PM1.map (fun x => x.1)) nxk_bolder_8 3 0 nn_dt200 6 nxd_bolder_8.2.1.length nxd_bolder_8.2.2.2.2 2 [] [37, 47, 48] [(47, [(0, 3, 0, 0), (0, 1, 0, 0), (0, 2, 0, 0)]), (48, [(0, 4, 0, 0), (0, 5, 0, 0)])] [nxe_bolder_8_0, nxe_bolder_8_1, nxe_bolder_8_2, nxe_bolder_8_3, nxe_bolder_8_4, nxe_bolder_8_5, nxe_bolder_8_6, nxe_bolder_8_7] nxn_bolder_8 21 nxm_bolder_8_0 = true := by decide +kernel
theorem nxc_bolder_8_1 : ab_cn vwCl nn_T nn_C nn_sh nn_MT (nn_KI1.map (fun x => x.1)) (nn_KJ1.map (fun x => x.1)) (nn_PF1.map (fun x => x.1)) nn_kd (nn_PS1.map (fun x => x.1)) (nn_PM1.map (fun x => x.1)) nxk_bolder_8 3 0 nn_dt200 6 nxd_bolder_8.2.1.length nxd_bolder_8.2.2.2.2 2 [] [37, 47, 48] [(47, [(0, 3, 0, 0), (0, 1, 0, 0), (0, 2, 0, 0)]), (48, [(0, 4, 0, 0), (0, 5, 0, 0)])] [nxe_bolder_8_0, nxe_bolder_8_1, nxe_bolder_8_2, nxe_bolder_8_3, nxe_bolder_8_4, nxe_bolder_8_5, nxe_bolder_8_6, nxe_bolder_8_7] nxn_bolder_8 21 nxm_bolder_8_1 = true := by decide +kernel
theorem nxc_bolder_8_2 : ab_cn vwCl nn_T nn_C nn_sh nn_MT (nn_KI1.map (fun x => x.1)) (nn_KJ1.map (fun x => x.1)) (nn_PF1.map (fun x => x.1)) nn_kd (nn_PS1.map (fun x => x.1)) (nn_PM1.map (fun x => x.1)) nxk_bolder_8 3 0 nn_dt200 6 nxd_bolder_8.2.1.length nxd_bolder_8.2.2.2.2 2 [] [37, 47, 48] [(47, [(0, 3, 0, 0), (0, 1, 0, 0), (0, 2, 0, 0)]), (48, [(0, 4, 0, 0), (0, 5, 0, 0)])] [nxe_bolder_8_0, nxe_bolder_8_1, nxe_bolder_8_2, nxe_bolder_8_3, nxe_bolder_8_4, nxe_bolder_8_5, nxe_bolder_8_6, nxe_bolder_8_7] nxn_bolder_8 21 nxm_bolder_8_2 = true := by decide +kernel
theorem nxc_bolder_8_3 : ab_cn vwCl nn_T nn_C nn_sh nn_MT (nn_KI1.map (fun x => x.1)) (nn_KJ1.map (fun x => x.1)) (nn_PF1.map (fun x => x.1)) nn_kd (nn_PS1.map (fun x => x.1)) (nn_PM1.map (fun x => x.1)) nxk_bolder_8 3 0 nn_dt200 6 nxd_bolder_8.2.1.length nxd_bolder_8.2.2.2.2 2 [] [37, 47, 48] [(47, [(0, 3, 0, 0), (0, 1, 0, 0), (0, 2, 0, 0)]), (48, [(0, 4, 0, 0), (0, 5, 0, 0)])] [nxe_bolder_8_0, nxe_bolder_8_1, nxe_bolder_8_2, nxe_bolder_8_3, nxe_bolder_8_4, nxe_bolder_8_5, nxe_bolder_8_6, nxe_bolder_8_7] nxn_bolder_8 21 nxm_bolder_8_3 = true := by decide +kernel
theorem nxc_bolder_8_4 : ab_cn vwCl nn_T nn_C nn_sh nn_MT (nn_KI1.map (fun x => x.1)) (nn_KJ1.map (fun x => x.1)) (nn_PF1.map (fun x => x.1)) nn_kd (nn_PS1.map (fun x => x.1)) (nn_PM1.map (fun x => x.1)) nxk_bolder_8 3 0 nn_dt200 6 nxd_bolder_8.2.1.length nxd_bolder_8.2.2.2.2 2 [] [37, 47, 48] [(47, [(0, 3, 0, 0), (0, 1, 0, 0), (0, 2, 0, 0)]), (48, [(0, 4, 0, 0), (0, 5, 0, 0)])] [nxe_bolder_8_0, nxe_bolder_8_1, nxe_bolder_8_2, nxe_bolder_8_3, nxe_bolder_8_4, nxe_bolder_8_5, nxe_bolder_8_6, nxe_bolder_8_7] nxn_bolder_8 21 nxm_bolder_8_4 = true := by decide +kernel
theorem nxc_bolder_8_5 : ab_cn vwCl nn_T nn_C nn_sh nn_MT (nn_KI1.map (fun x => x.1)) (nn_KJ1.map (fun x => x.1)) (nn_PF1.map (fun x => x.1)) nn_kd (nn_PS1.map (fun x => x.1)) (nn_PM1.map (fun x => x.1)) nxk_bolder_8 3 0 nn_dt200 6 nxd_bolder_8.2.1.length nxd_bolder_8.2.2.2.2 2 [] [37, 47, 48] [(47, [(0, 3, 0, 0), (0, 1, 0, 0), (0, 2, 0, 0)]), (48, [(0, 4, 0, 0), (0, 5, 0, 0)])] [nxe_bolder_8_0, nxe_bolder_8_1, nxe_bolder_8_2, nxe_bolder_8_3, nxe_bolder_8_4, nxe_bolder_8_5, nxe_bolder_8_6, nxe_bolder_8_7] nxn_bolder_8 21 nxm_bolder_8_5 = true := by decide +kernel
theorem nxc_bolder_8_6 : ab_cn vwCl nn_T nn_C nn_sh nn_MT (nn_KI1.map (fun x => x.1)) (nn_KJ1.map (fun x => x.1)) (nn_PF1.map (fun x => x.1)) nn_kd (nn_PS1.map (fun x => x.1)) (nn_PM1.map (fun x => x.1)) nxk_bolder_8 3 0 nn_dt200 6 nxd_bolder_8.2.1.length nxd_bolder_8.2.2.2.2 2 [] [37, 47, 48] [(47, [(0, 3, 0, 0), (0, 1, 0, 0), (0, 2, 0, 0)]), (48, [(0, 4, 0, 0), (0, 5, 0, 0)])] [nxe_bolder_8_0, nxe_bolder_8_1, nxe_bolder_8_2, nxe_bolder_8_3, nxe_bolder_8_4, nxe_bolder_8_5, nxe_bolder_8_6, nxe_bolder_8_7] nxn_bolder_8 21 nxm_bolder_8_6 = true := by decide +kernel
theorem nxc_bolder_8_7 : ab_cn vwCl nn_T nn_C nn_sh nn_MT (nn_KI1.map (fun x => x.1)) (nn_KJ1.map (fun x => x.1)) (nn_PF1.map (fun x => x.1)) nn_kd (nn_PS1.map (fun x => x.1)) (nn_PM1.map (fun x => x.1)) nxk_bolder_8 3 0 nn_dt200 6 nxd_bolder_8.2.1.length nxd_bolder_8.2.2.2.2 2 [] [37, 47, 48] [(47, [(0, 3, 0, 0), (0, 1, 0, 0), (0, 2, 0, 0)]), (48, [(0, 4, 0, 0), (0, 5, 0, 0)])] [nxe_bolder_8_0, nxe_bolder_8_1, nxe_bolder_8_2, nxe_bolder_8_3, nxe_bolder_8_4, nxe_bolder_8_5, nxe_bolder_8_6, nxe_bolder_8_7] nxn_bolder_8 21 nxm_bolder_8_7 = true := by decide +kernel
theorem nxc_bolder_8_8 : ab_cn vwCl nn_T nn_C nn_sh nn_MT (nn_KI1.map (fun x => x.1)) (nn_KJ1.map (fun x => x.1)) (nn_PF1.map (fun x => x.1)) nn_kd (nn_PS1.map (fun x => x.1)) (nn_PM1.map (fun x => x.1)) nxk_bolder_8 3 0 nn_dt200 6 nxd_bolder_8.2.1.length nxd_bolder_8.2.2.2.2 2 [] [37, 47, 48] [(47, [(0, 3, 0, 0), (0, 1, 0, 0), (0, 2, 0, 0)]), (48, [(0, 4, 0, 0), (0, 5, 0, 0)])] [nxe_bolder_8_0, nxe_bolder_8_1, nxe_bolder_8_2, nxe_bolder_8_3, nxe_bolder_8_4, nxe_bolder_8_5, nxe_bolder_8_6, nxe_bolder_8_7] nxn_bolder_8 21 nxm_bolder_8_8 = true := by decide +kernel
theorem nxc_bolder_8_9 : ab_cn vwCl nn_T nn_C nn_sh nn_MT (nn_KI1.map (fun x => x.1)) (nn_KJ1.map (fun x => x.1)) (nn_PF1.map (fun x => x.1)) nn_kd (nn_PS1.map (fun x => x.1)) (nn_PM1.map (fun x => x.1)) nxk_bolder_8 3 0 nn_dt200 6 nxd_bolder_8.2.1.length nxd_bolder_8.2.2.2.2 2 [] [37, 47, 48] [(47, [(0, 3, 0, 0), (0, 1, 0, 0), (0, 2, 0, 0)]), (48, [(0, 4, 0, 0), (0, 5, 0, 0)])] [nxe_bolder_8_0, nxe_bolder_8_1, nxe_bolder_8_2, nxe_bolder_8_3, nxe_bolder_8_4, nxe_bolder_8_5, nxe_bolder_8_6, nxe_bolder_8_7] nxn_bolder_8 21 nxm_bolder_8_9 = true := by decide +kernel
theorem nxc_bolder_8 : nxn_bolder_8.all (ab_cn vwCl nn_T nn_C nn_sh nn_MT (nn_KI1.map (fun x => x.1)) (nn_KJ1.map (fun x => x.1)) (nn_PF1.map (fun x => x.1)) nn_kd (nn_PS1.map (fun x => x.1)) (nn_PM1.map (fun x => x.1)) nxk_bolder_8 3 0 nn_dt200 6 nxd_bolder_8.2.1.length nxd_bolder_8.2.2.2.2 2 [] [37, 47, 48] [(47, [(0, 3, 0, 0), (0, 1, 0, 0), (0, 2, 0, 0)]), (48, [(0, 4, 0, 0), (0, 5, 0, 0)])] [nxe_bolder_8_0, nxe_bolder_8_1, nxe_bolder_8_2, nxe_bolder_8_3, nxe_bolder_8_4, nxe_bolder_8_5, nxe_bolder_8_6, nxe_bolder_8_7] nxn_bolder_8 21) = true := List.all_eq_true.mpr (List.forall_mem_cons.mpr ⟨nxc_bolder_8_0, List.forall_mem_cons.mpr ⟨nxc_bolder_8_1, List.forall_mem_cons.mpr ⟨nxc_bolder_8_2, List.forall_mem_cons.mpr ⟨nxc_bolder_8_3, List.forall_mem_cons.mpr ⟨nxc_bolder_8_4, List.forall_mem_cons.mpr ⟨nxc_bolder_8_5, List.forall_mem_cons.mpr ⟨nxc_bolder_8_6, List.forall_mem_cons.mpr ⟨nxc_bolder_8_7, List.forall_mem_cons.mpr ⟨nxc_bolder_8_8, List.forall_mem_cons.mpr ⟨nxc_bolder_8_9, fun _ h => absurd h List.not_mem_nil⟩⟩⟩⟩⟩⟩⟩⟩⟩⟩)
set_option maxHeartbeats 4000000 in
theorem nxt_bolder_8 (l : Launch) (htr : l.stackTraces = false) (cy : Nat → ClassId) (ad wr cr : Nat → Nat) (D : va_G) (hinj : nn_inj ad) : nx_H l cy ad wr cr D (200, 3, nxd_bolder_8, nxo_bolder_8) := by
  refine nx_holdW (mr := (⟨"NameNotes", "bolder", "(IIIII)J"⟩, prog_1_method_37_code, 6, (Option.some Jvm.ClassFile.FieldType.long), 5, true, 2)) (dt := nn_dt200) (KS := nxk_bolder_8) htr hinj rfl rfl (by decide +kernel) nn_KI1_ok nn_KJ1_ok nn_PF1_ok nn_PS1_ok nn_PM1_ok (List.forall_mem_cons.mpr ⟨lf_736 l cy ad wr cr D hinj, List.forall_mem_cons.mpr ⟨lf_737 l cy ad wr cr D hinj, List.forall_mem_cons.mpr ⟨lf_738 l cy ad wr cr D hinj, List.forall_mem_cons.mpr ⟨lf_747 l cy ad wr cr D hinj, List.forall_mem_cons.mpr ⟨lf_753 l cy ad wr cr D hinj, List.forall_mem_cons.mpr ⟨lf_762 l cy ad wr cr D hinj, List.forall_mem_cons.mpr ⟨lf_766 l cy ad wr cr D hinj, List.forall_mem_cons.mpr ⟨lf_768 l cy ad wr cr D hinj, List.forall_mem_cons.mpr ⟨lf_776 l cy ad wr cr D hinj, List.forall_mem_cons.mpr ⟨lf_780 l cy ad wr cr D hinj, List.forall_mem_cons.mpr ⟨lf_782 l cy ad wr cr D hinj, List.forall_mem_cons.mpr ⟨lf_786 l cy ad wr cr D hinj, List.forall_mem_cons.mpr ⟨lf_787 l cy ad wr cr D hinj, List.forall_mem_cons.mpr ⟨lf_789 l cy ad wr cr D hinj, List.forall_mem_cons.mpr ⟨lf_790 l cy ad wr cr D hinj, List.forall_mem_cons.mpr ⟨lf_792 l cy ad wr cr D hinj, List.forall_mem_cons.mpr ⟨lf_793 l cy ad wr cr D hinj, List.forall_mem_cons.mpr ⟨lf_795 l cy ad wr cr D hinj, List.forall_mem_cons.mpr ⟨lf_796 l cy ad wr cr D hinj, List.forall_mem_cons.mpr ⟨lf_815 l cy ad wr cr D hinj, List.forall_mem_cons.mpr ⟨lf_816 l cy ad wr cr D hinj, List.forall_mem_cons.mpr ⟨lf_817 l cy ad wr cr D hinj, List.forall_mem_cons.mpr ⟨lf_818 l cy ad wr cr D hinj, List.forall_mem_cons.mpr ⟨lf_827 l cy ad wr cr D hinj, List.forall_mem_cons.mpr ⟨lf_828 l cy ad wr cr D hinj, List.forall_mem_cons.mpr ⟨lf_829 l cy ad wr cr D hinj, List.forall_mem_cons.mpr ⟨lf_830 l cy ad wr cr D hinj, List.forall_mem_cons.mpr ⟨lf_840 l cy ad wr cr D hinj, List.forall_mem_cons.mpr ⟨lf_843 l cy ad wr cr D hinj, List.forall_mem_cons.mpr ⟨lf_844 l cy ad wr cr D hinj, List.forall_mem_cons.mpr ⟨lf_1111 l cy ad wr cr D hinj, List.forall_mem_cons.mpr ⟨lf_1112 l cy ad wr cr D hinj, List.forall_mem_cons.mpr ⟨lf_1115 l cy ad wr cr D hinj, List.forall_mem_cons.mpr ⟨lf_1116 l cy ad wr cr D hinj, List.forall_mem_cons.mpr ⟨lf_1179 l cy ad wr cr D hinj, List.forall_mem_cons.mpr ⟨lf_1180 l cy ad wr cr D hinj, List.forall_mem_cons.mpr ⟨lf_1195 l cy ad wr cr D hinj, List.forall_mem_cons.mpr ⟨lf_1196 l cy ad wr cr D hinj, List.forall_mem_cons.mpr ⟨lf_1197 l cy ad wr cr D hinj, List.forall_mem_cons.mpr ⟨lf_1198 l cy ad wr cr D hinj, List.forall_mem_cons.mpr ⟨lf_1199 l cy ad wr cr D hinj, List.forall_mem_cons.mpr ⟨lf_1200 l cy ad wr cr D hinj, List.forall_mem_cons.mpr ⟨lf_1201 l cy ad wr cr D hinj, List.forall_mem_cons.mpr ⟨lf_1202 l cy ad wr cr D hinj, List.forall_mem_cons.mpr ⟨lf_1203 l cy ad wr cr D hinj, List.forall_mem_cons.mpr ⟨lf_1204 l cy ad wr cr D hinj, List.forall_mem_cons.mpr ⟨lf_1205 l cy ad wr cr D hinj, List.forall_mem_cons.mpr ⟨lf_1206 l cy ad wr cr D hinj, List.forall_mem_cons.mpr ⟨lf_1207 l cy ad wr cr D hinj, List.forall_mem_cons.mpr ⟨lf_1208 l cy ad wr cr D hinj, List.forall_mem_cons.mpr ⟨lf_1209 l cy ad wr cr D hinj, List.forall_mem_cons.mpr ⟨lf_1210 l cy ad wr cr D hinj, List.forall_mem_cons.mpr ⟨lf_1211 l cy ad wr cr D hinj, List.forall_mem_cons.mpr ⟨lf_1212 l cy ad wr cr D hinj, List.forall_mem_cons.mpr ⟨lf_1213 l cy ad wr cr D hinj, List.forall_mem_cons.mpr ⟨lf_1214 l cy ad wr cr D hinj, List.forall_mem_cons.mpr ⟨lf_1215 l cy ad wr cr D hinj, List.forall_mem_cons.mpr ⟨lf_1216 l cy ad wr cr D hinj, List.forall_mem_cons.mpr ⟨lf_1217 l cy ad wr cr D hinj, List.forall_mem_cons.mpr ⟨lf_1218 l cy ad wr cr D hinj, List.forall_mem_cons.mpr ⟨lf_1219 l cy ad wr cr D hinj, List.forall_mem_cons.mpr ⟨lf_1220 l cy ad wr cr D hinj, List.forall_mem_cons.mpr ⟨lf_1221 l cy ad wr cr D hinj, List.forall_mem_cons.mpr ⟨lf_1222 l cy ad wr cr D hinj, List.forall_mem_cons.mpr ⟨lf_1223 l cy ad wr cr D hinj, List.forall_mem_cons.mpr ⟨lf_1224 l cy ad wr cr D hinj, List.forall_mem_cons.mpr ⟨lf_1225 l cy ad wr cr D hinj, List.forall_mem_cons.mpr ⟨lf_1226 l cy ad wr cr D hinj, List.forall_mem_cons.mpr ⟨lf_1227 l cy ad wr cr D hinj, List.forall_mem_cons.mpr ⟨lf_1228 l cy ad wr cr D hinj, List.forall_mem_cons.mpr ⟨lf_1229 l cy ad wr cr D hinj, List.forall_mem_cons.mpr ⟨lf_1230 l cy ad wr cr D hinj, List.forall_mem_cons.mpr ⟨lf_1231 l cy ad wr cr D hinj, List.forall_mem_cons.mpr ⟨lf_1232 l cy ad wr cr D hinj, List.forall_mem_cons.mpr ⟨lf_1233 l cy ad wr cr D hinj, List.forall_mem_cons.mpr ⟨lf_1234 l cy ad wr cr D hinj, List.forall_mem_cons.mpr ⟨lf_1235 l cy ad wr cr D hinj, List.forall_mem_cons.mpr ⟨lf_1236 l cy ad wr cr D hinj, fun _ h => absurd h List.not_mem_nil⟩⟩⟩⟩⟩⟩⟩⟩⟩⟩⟩⟩⟩⟩⟩⟩⟩⟩⟩⟩⟩⟩⟩⟩⟩⟩⟩⟩⟩⟩⟩⟩⟩⟩⟩⟩⟩⟩⟩⟩⟩⟩⟩⟩⟩⟩⟩⟩⟩⟩⟩⟩⟩⟩⟩⟩⟩⟩⟩⟩⟩⟩⟩⟩⟩⟩⟩⟩⟩⟩⟩⟩⟩⟩⟩⟩⟩⟩) ?_
  intro p e s m below meth c R Q ρ σ hE hK hsy hP hRT hTH
  refine ab_entry (lev := 3) (sp := []) (HD := [37, 47, 48]) (HN := [(47, [(0, 3, 0, 0), (0, 1, 0, 0), (0, 2, 0, 0)]), (48, [(0, 4, 0, 0), (0, 5, 0, 0)])]) (EX := [nxe_bolder_8_0, nxe_bolder_8_1, nxe_bolder_8_2, nxe_bolder_8_3, nxe_bolder_8_4, nxe_bolder_8_5, nxe_bolder_8_6, nxe_bolder_8_7]) (NS := nxn_bolder_8) (fuel := 21) (mu := ((9000000000000000000000, [], []), (0, [], []), (0, [], []))) hE (by decide +kernel) hK hsy hP List.mem_cons_self hRT ?_ (fun nd hnd => List.all_eq_true.mp nxc_bolder_8 nd hnd)
  intro nd hnd ρ2 σ2 H locs ls st hG
  rcases List.mem_cons.mp hnd with rfl | hnd
  · exact hTH 37 _ ρ2 σ2 H locs ls st 213 "no such ones" 5 (by decide +kernel) rfl (by decide +kernel) (show decode prog_1_method_37_code 37 = .ok (.new 211, 3) by decide +kernel) (show decode prog_1_method_37_code 40 = .ok (.dup, 1) by decide +kernel) (Or.inl ⟨(show decode prog_1_method_37_code 41 = .ok (.ldc 213, 2) by decide +kernel), (show decode prog_1_method_37_code 43 = .ok (.invokespecial 215, 3) by decide +kernel), (show decode prog_1_method_37_code 46 = .ok (.athrow, 1) by decide +kernel)⟩) hG
  rcases List.mem_cons.mp hnd with rfl | hnd
  · exact hTH 37 _ ρ2 σ2 H locs ls st 213 "no such ones" 5 (by decide +kernel) rfl (by decide +kernel) (show decode prog_1_method_37_code 37 = .ok (.new 211, 3) by decide +kernel) (show decode prog_1_method_37_code 40 = .ok (.dup, 1) by decide +kernel) (Or.inl ⟨(show decode prog_1_method_37_code 41 = .ok (.ldc 213, 2) by decide +kernel), (show decode prog_1_method_37_code 43 = .ok (.invokespecial 215, 3) by decide +kernel), (show decode prog_1_method_37_code 46 = .ok (.athrow, 1) by decide +kernel)⟩) hG
  rcases List.mem_cons.mp hnd with rfl | hnd
  · exact hTH 37 _ ρ2 σ2 H locs ls st 213 "no such ones" 5 (by decide +kernel) rfl (by decide +kernel) (show decode prog_1_method_37_code 37 = .ok (.new 211, 3) by decide +kernel) (show decode prog_1_method_37_code 40 = .ok (.dup, 1) by decide +kernel) (Or.inl ⟨(show decode prog_1_method_37_code 41 = .ok (.ldc 213, 2) by decide +kernel), (show decode prog_1_method_37_code 43 = .ok (.invokespecial 215, 3) by decide +kernel), (show decode prog_1_method_37_code 46 = .ok (.athrow, 1) by decide +kernel)⟩) hG
  rcases List.mem_cons.mp hnd with rfl | hnd
  · exact hTH 37 _ ρ2 σ2 H locs ls st 213 "no such ones" 5 (by decide +kernel) rfl (by decide +kernel) (show decode prog_1_method_37_code 37 = .ok (.new 211, 3) by decide +kernel) (show decode prog_1_method_37_code 40 = .ok (.dup, 1) by decide +kernel) (Or.inl ⟨(show decode prog_1_method_37_code 41 = .ok (.ldc 213, 2) by decide +kernel), (show decode prog_1_method_37_code 43 = .ok (.invokespecial 215, 3) by decide +kernel), (show decode prog_1_method_37_code 46 = .ok (.athrow, 1) by decide +kernel)⟩) hG
  rcases List.mem_cons.mp hnd with rfl | hnd
  · exact hTH 37 _ ρ2 σ2 H locs ls st 213 "no such ones" 5 (by decide +kernel) rfl (by decide +kernel) (show decode prog_1_method_37_code 37 = .ok (.new 211, 3) by decide +kernel) (show decode prog_1_method_37_code 40 = .ok (.dup, 1) by decide +kernel) (Or.inl ⟨(show decode prog_1_method_37_code 41 = .ok (.ldc 213, 2) by decide +kernel), (show decode prog_1_method_37_code 43 = .ok (.invokespecial 215, 3) by decide +kernel), (show decode prog_1_method_37_code 46 = .ok (.athrow, 1) by decide +kernel)⟩) hG
  rcases List.mem_cons.mp hnd with rfl | hnd
  · exact hTH 37 _ ρ2 σ2 H locs ls st 213 "no such ones" 5 (by decide +kernel) rfl (by decide +kernel) (show decode prog_1_method_37_code 37 = .ok (.new 211, 3) by decide +kernel) (show decode prog_1_method_37_code 40 = .ok (.dup, 1) by decide +kernel) (Or.inl ⟨(show decode prog_1_method_37_code 41 = .ok (.ldc 213, 2) by decide +kernel), (show decode prog_1_method_37_code 43 = .ok (.invokespecial 215, 3) by decide +kernel), (show decode prog_1_method_37_code 46 = .ok (.athrow, 1) by decide +kernel)⟩) hG
  rcases List.mem_cons.mp hnd with rfl | hnd
  · exact hTH 37 _ ρ2 σ2 H locs ls st 213 "no such ones" 5 (by decide +kernel) rfl (by decide +kernel) (show decode prog_1_method_37_code 37 = .ok (.new 211, 3) by decide +kernel) (show decode prog_1_method_37_code 40 = .ok (.dup, 1) by decide +kernel) (Or.inl ⟨(show decode prog_1_method_37_code 41 = .ok (.ldc 213, 2) by decide +kernel), (show decode prog_1_method_37_code 43 = .ok (.invokespecial 215, 3) by decide +kernel), (show decode prog_1_method_37_code 46 = .ok (.athrow, 1) by decide +kernel)⟩) hG
  rcases List.mem_cons.mp hnd with rfl | hnd
  · exact hTH 37 _ ρ2 σ2 H locs ls st 213 "no such ones" 5 (by decide +kernel) rfl (by decide +kernel) (show decode prog_1_method_37_code 37 = .ok (.new 211, 3) by decide +kernel) (show decode prog_1_method_37_code 40 = .ok (.dup, 1) by decide +kernel) (Or.inl ⟨(show decode prog_1_method_37_code 41 = .ok (.ldc 213, 2) by decide +kernel), (show decode prog_1_method_37_code 43 = .ok (.invokespecial 215, 3) by decide +kernel), (show decode prog_1_method_37_code 46 = .ok (.athrow, 1) by decide +kernel)⟩) hG
  exact absurd hnd List.not_mem_nil
/-- NameNotes.bolder_9 -/
def nxd_bolder_9 : ab_CN := ([(2, 0, 0), (0, 1, 0), (0, 2, 0), (0, 3, 0), (0, 4, 0), (0, 5, 0)], [(0, 0), ((-2147483648), 2147483647), ((-2147483648), 2147483647), (8, 8), ((-2147483648), 2147483647), ((-2147483648), 2147483647)], [], [], [([(1, 0, 1)], [(0, 0), (2, 2), (2, 2), (8, 8), (9, 9), (1, 1)], [], [], [(90, 1000000), (91, 1000000)]),
    ([(1, 0, 1)], [(0, 0), (2, 2), (2, 2), (8, 8), (9, 9), (0, 0)], [], [], [(90, 1000000), (91, 1000000)]),
    ([(1, 0, 9)], [(0, 0), (2, 2), (2, 2), (8, 8), (8, 8), (1, 1)], [], [], [(90, 1000000), (91, 1000000)]),
    ([(1, 0, 8)], [(0, 0), (2, 2), (2, 2), (8, 8), (8, 8), (0, 0)], [], [], [(90, 1000000), (91, 1000000)]),
    ([(1, 0, 9)], [(0, 0), (2, 2), (2, 2), (8, 8), (7, 7), (1, 1)], [], [], [(90, 1000000), (91, 1000000)]),
    ([(1, 0, 8)], [(0, 0), (2, 2), (2, 2), (8, 8), (7, 7), (0, 0)], [], [], [(90, 1000000), (91, 1000000)]),
    ([(1, 0, 9)], [(0, 0), (2, 2), (2, 2), (8, 8), (6, 6), (1, 1)], [], [], [(90, 1000000), (91, 1000000)]),
    ([(1, 0, 8)], [(0, 0), (2, 2), (2, 2), (8, 8), (6, 6), (0, 0)], [], [], [(90, 1000000), (91, 1000000)]),
    ([(1, 0, 9)], [(0, 0), (2, 2), (2, 2), (8, 8), (5, 5), (1, 1)], [], [], [(90, 1000000), (91, 1000000)]),
    ([(1, 0, 8)], [(0, 0), (2, 2), (2, 2), (8, 8), (5, 5), (0, 0)], [], [], [(90, 1000000), (91, 1000000)]),
    ([(1, 0, 9)], [(0, 0), (2, 2), (2, 2), (8, 8), (4, 4), (1, 1)], [], [], [(90, 1000000), (91, 1000000)]),
    ([(1, 0, 8)], [(0, 0), (2, 2), (2, 2), (8, 8), (4, 4), (0, 0)], [], [], [(90, 1000000), (91, 1000000)]),
    ([(1, 0, 9)], [(0, 0), (2, 2), (2, 2), (8, 8), (3, 3), (1, 1)], [], [], [(90, 1000000), (91, 1000000)]),
    ([(1, 0, 8)], [(0, 0), (2, 2), (2, 2), (8, 8), (3, 3), (0, 0)], [], [], [(90, 1000000), (91, 1000000)]),
    ([(1, 0, 9)], [(0, 0), (2, 2), (2, 2), (8, 8), (2, 2), (1, 1)], [], [], [(90, 1000000), (91, 1000000)]),
    ([(1, 0, 8)], [(0, 0), (2, 2), (2, 2), (8, 8), (2, 2), (0, 0)], [], [], [(90, 1000000), (91, 1000000)]),
    ([(1, 0, 9)], [(0, 0), (2, 2), (2, 2), (8, 8), (1, 1), (1, 1)], [], [], [(90, 1000000), (91, 1000000)]),
    ([(1, 0, 8)], [(0, 0), (2, 2), (2, 2), (8, 8), (1, 1), (0, 0)], [], [], [(90, 1000000), (91, 1000000)]),
    ([(1, 0, 9)], [(0, 0), (2, 2), (2, 2), (8, 8), (0, 0), (1, 1)], [], [], [(90, 1000000), (91, 1000000)]),
    ([(1, 0, 8)], [(0, 0), (2, 2), (2, 2), (8, 8), (0, 0), (0, 0)], [], [], [(90, 1000000), (91, 1000000)]),
    ([(1, 0, 1)], [(0, 0), (2, 2), (1, 1), (8, 8), (9, 9), (1, 1)], [], [], [(90, 1000000), (91, 1000000)]),
    ([(1, 0, 1)], [(0, 0), (2, 2), (1, 1), (8, 8), (9, 9), (0, 0)], [], [], [(90, 1000000), (91, 1000000)]),
    ([(1, 0, 81)], [(0, 0), (2, 2), (1, 1), (8, 8), (8, 8), (1, 1)], [], [], [(90, 1000000), (91, 1000000)]),
    ([(1, 0, 80)], [(0, 0), (2, 2), (1, 1), (8, 8), (8, 8), (0, 0)], [], [], [(90, 1000000), (91, 1000000)]),
    ([(1, 0, 81)], [(0, 0), (2, 2), (1, 1), (8, 8), (7, 7), (1, 1)], [], [], [(90, 1000000), (91, 1000000)]),
    ([(1, 0, 80)], [(0, 0), (2, 2), (1, 1), (8, 8), (7, 7), (0, 0)], [], [], [(90, 1000000), (91, 1000000)]),
    ([(1, 0, 81)], [(0, 0), (2, 2), (1, 1), (8, 8), (6, 6), (1, 1)], [], [], [(90, 1000000), (91, 1000000)]),
    ([(1, 0, 80)], [(0, 0), (2, 2), (1, 1), (8, 8), (6, 6), (0, 0)], [], [], [(90, 1000000), (91, 1000000)]),
    ([(1, 0, 81)], [(0, 0), (2, 2), (1, 1), (8, 8), (5, 5), (1, 1)], [], [], [(90, 1000000), (91, 1000000)]),
    ([(1, 0, 80)], [(0, 0), (2, 2), (1, 1), (8, 8), (5, 5), (0, 0)], [], [], [(90, 1000000), (91, 1000000)]),
    ([(1, 0, 81)], [(0, 0), (2, 2), (1, 1), (8, 8), (4, 4), (1, 1)], [], [], [(90, 1000000), (91, 1000000)]),
    ([(1, 0, 80)], [(0, 0), (2, 2), (1, 1), (8, 8), (4, 4), (0, 0)], [], [], [(90, 1000000), (91, 1000000)]),
    ([(1, 0, 81)], [(0, 0), (2, 2), (1, 1), (8, 8), (3, 3), (1, 1)], [], [], [(90, 1000000), (91, 1000000)]),
    ([(1, 0, 80)], [(0, 0), (2, 2), (1, 1), (8, 8), (3, 3), (0, 0)], [], [], [(90, 1000000), (91, 1000000)]),
    ([(1, 0, 81)], [(0, 0), (2, 2), (1, 1), (8, 8), (2, 2), (1, 1)], [], [], [(90, 1000000), (91, 1000000)]),
    ([(1, 0, 80)], [(0, 0), (2, 2), (1, 1), (8, 8), (2, 2), (0, 0)], [], [], [(90, 1000000), (91, 1000000)]),
    ([(1, 0, 81)], [(0, 0), (2, 2), (1, 1), (8, 8), (1, 1), (1, 1)], [], [], [(90, 1000000), (91, 1000000)]),
    ([(1, 0, 80)], [(0, 0), (2, 2), (1, 1), (8, 8), (1, 1), (0, 0)], [], [], [(90, 1000000), (91, 1000000)]),
    ([(1, 0, 81)], [(0, 0), (2, 2), (1, 1), (8, 8), (0, 0), (1, 1)], [], [], [(90, 1000000), (91, 1000000)]),
    ([(1, 0, 80)], [(0, 0), (2, 2), (1, 1), (8, 8), (0, 0), (0, 0)], [], [], [(90, 1000000), (91, 1000000)]),
    ([(1, 0, 1)], [(0, 0), (2, 2), (0, 0), (8, 8), (9, 9), (1, 1)], [], [], [(90, 1000000), (91, 1000000)]),
    ([(1, 0, 1)], [(0, 0), (2, 2), (0, 0), (8, 8), (9, 9), (0, 0)], [], [], [(90, 1000000), (91, 1000000)]),
    ([(1, 0, 729)], [(0, 0), (2, 2), (0, 0), (8, 8), (8, 8), (1, 1)], [], [], [(90, 1000000), (91, 1000000)]),
    ([(1, 0, 728)], [(0, 0), (2, 2), (0, 0), (8, 8), (8, 8), (0, 0)], [], [], [(90, 1000000), (91, 1000000)]),
    ([(1, 0, 729)], [(0, 0), (2, 2), (0, 0), (8, 8), (7, 7), (1, 1)], [], [], [(90, 1000000), (91, 1000000)]),
    ([(1, 0, 728)], [(0, 0), (2, 2), (0, 0), (8, 8), (7, 7), (0, 0)], [], [], [(90, 1000000), (91, 1000000)]),
    ([(1, 0, 729)], [(0, 0), (2, 2), (0, 0), (8, 8), (6, 6), (1, 1)], [], [], [(90, 1000000), (91, 1000000)]),
    ([(1, 0, 728)], [(0, 0), (2, 2), (0, 0), (8, 8), (6, 6), (0, 0)], [], [], [(90, 1000000), (91, 1000000)]),
    ([(1, 0, 729)], [(0, 0), (2, 2), (0, 0), (8, 8), (5, 5), (1, 1)], [], [], [(90, 1000000), (91, 1000000)]),
    ([(1, 0, 728)], [(0, 0), (2, 2), (0, 0), (8, 8), (5, 5), (0, 0)], [], [], [(90, 1000000), (91, 1000000)]),
    ([(1, 0, 729)], [(0, 0), (2, 2), (0, 0), (8, 8), (4, 4), (1, 1)], [], [], [(90, 1000000), (91, 1000000)]),
    ([(1, 0, 728)], [(0, 0), (2, 2), (0, 0), (8, 8), (4, 4), (0, 0)], [], [], [(90, 1000000), (91, 1000000)]),
    ([(1, 0, 729)], [(0, 0), (2, 2), (0, 0), (8, 8), (3, 3), (1, 1)], [], [], [(90, 1000000), (91, 1000000)]),
    ([(1, 0, 728)], [(0, 0), (2, 2), (0, 0), (8, 8), (3, 3), (0, 0)], [], [], [(90, 1000000), (91, 1000000)]),
    ([(1, 0, 729)], [(0, 0), (2, 2), (0, 0), (8, 8), (2, 2), (1, 1)], [], [], [(90, 1000000), (91, 1000000)]),
    ([(1, 0, 728)], [(0, 0), (2, 2), (0, 0), (8, 8), (2, 2), (0, 0)], [], [], [(90, 1000000), (91, 1000000)]),
    ([(1, 0, 729)], [(0, 0), (2, 2), (0, 0), (8, 8), (1, 1), (1, 1)], [], [], [(90, 1000000), (91, 1000000)]),
    ([(1, 0, 728)], [(0, 0), (2, 2), (0, 0), (8, 8), (1, 1), (0, 0)], [], [], [(90, 1000000), (91, 1000000)]),
    ([(1, 0, 729)], [(0, 0), (2, 2), (0, 0), (8, 8), (0, 0), (1, 1)], [], [], [(90, 1000000), (91, 1000000)]),
    ([(1, 0, 728)], [(0, 0), (2, 2), (0, 0), (8, 8), (0, 0), (0, 0)], [], [], [(90, 1000000), (91, 1000000)]),
    ([(1, 0, 1)], [(0, 0), (1, 1), (2, 2), (8, 8), (9, 9), (1, 1)], [], [], [(90, 1000000), (91, 1000000)]),
    ([(1, 0, 1)], [(0, 0), (1, 1), (2, 2), (8, 8), (9, 9), (0, 0)], [], [], [(90, 1000000), (91, 1000000)]),
    ([(1, 0, 9)], [(0, 0), (1, 1), (2, 2), (8, 8), (8, 8), (1, 1)], [], [], [(90, 1000000), (91, 1000000)]),
    ([(1, 0, 8)], [(0, 0), (1, 1), (2, 2), (8, 8), (8, 8), (0, 0)], [], [], [(90, 1000000), (91, 1000000)]),
    ([(1, 0, 81)], [(0, 0), (1, 1), (2, 2), (8, 8), (7, 7), (1, 1)], [], [], [(90, 1000000), (91, 1000000)]),
    ([(1, 0, 64)], [(0, 0), (1, 1), (2, 2), (8, 8), (7, 7), (0, 0)], [], [], [(90, 1000000), (91, 1000000)]),
    ([(1, 0, 81)], [(0, 0), (1, 1), (2, 2), (8, 8), (6, 6), (1, 1)], [], [], [(90, 1000000), (91, 1000000)]),
    ([(1, 0, 64)], [(0, 0), (1, 1), (2, 2), (8, 8), (6, 6), (0, 0)], [], [], [(90, 1000000), (91, 1000000)]),
    ([(1, 0, 81)], [(0, 0), (1, 1), (2, 2), (8, 8), (5, 5), (1, 1)], [], [], [(90, 1000000), (91, 1000000)]),
    ([(1, 0, 64)], [(0, 0), (1, 1), (2, 2), (8, 8), (5, 5), (0, 0)], [], [], [(90, 1000000), (91, 1000000)]),
    ([(1, 0, 81)], [(0, 0), (1, 1), (2, 2), (8, 8), (4, 4), (1, 1)], [], [], [(90, 1000000), (91, 1000000)]),
    ([(1, 0, 64)], [(0, 0), (1, 1), (2, 2), (8, 8), (4, 4), (0, 0)], [], [], [(90, 1000000), (91, 1000000)]),
    ([(1, 0, 81)], [(0, 0), (1, 1), (2, 2), (8, 8), (3, 3), (1, 1)], [], [], [(90, 1000000), (91, 1000000)]),
    ([(1, 0, 64)], [(0, 0), (1, 1), (2, 2), (8, 8), (3, 3), (0, 0)], [], [], [(90, 1000000), (91, 1000000)]),
    ([(1, 0, 81)], [(0, 0), (1, 1), (2, 2), (8, 8), (2, 2), (1, 1)], [], [], [(90, 1000000), (91, 1000000)]),
    ([(1, 0, 64)], [(0, 0), (1, 1), (2, 2), (8, 8), (2, 2), (0, 0)], [], [], [(90, 1000000), (91, 1000000)]),
    ([(1, 0, 81)], [(0, 0), (1, 1), (2, 2), (8, 8), (1, 1), (1, 1)], [], [], [(90, 1000000), (91, 1000000)]),
    ([(1, 0, 64)], [(0, 0), (1, 1), (2, 2), (8, 8), (1, 1), (0, 0)], [], [], [(90, 1000000), (91, 1000000)]),
    ([(1, 0, 81)], [(0, 0), (1, 1), (2, 2), (8, 8), (0, 0), (1, 1)], [], [], [(90, 1000000), (91, 1000000)]),
    ([(1, 0, 64)], [(0, 0), (1, 1), (2, 2), (8, 8), (0, 0), (0, 0)], [], [], [(90, 1000000), (91, 1000000)]),
    ([(1, 0, 1)], [(0, 0), (1, 1), (1, 1), (8, 8), (9, 9), (1, 1)], [], [], [(90, 1000000), (91, 1000000)]),
    ([(1, 0, 1)], [(0, 0), (1, 1), (1, 1), (8, 8), (9, 9), (0, 0)], [], [], [(90, 1000000), (91, 1000000)]),
    ([(1, 0, 729)], [(0, 0), (1, 1), (1, 1), (8, 8), (8, 8), (1, 1)], [], [], [(90, 1000000), (91, 1000000)]),
    ([(1, 0, 712)], [(0, 0), (1, 1), (1, 1), (8, 8), (8, 8), (0, 0)], [], [], [(90, 1000000), (91, 1000000)]),
    ([(1, 0, 729)], [(0, 0), (1, 1), (1, 1), (8, 8), (7, 7), (1, 1)], [], [], [(90, 1000000), (91, 1000000)]),
    ([(1, 0, 704)], [(0, 0), (1, 1), (1, 1), (8, 8), (7, 7), (0, 0)], [], [], [(90, 1000000), (91, 1000000)]),
    ([(1, 0, 729)], [(0, 0), (1, 1), (1, 1), (8, 8), (6, 6), (1, 1)], [], [], [(90, 1000000), (91, 1000000)]),
    ([(1, 0, 704)], [(0, 0), (1, 1), (1, 1), (8, 8), (6, 6), (0, 0)], [], [], [(90, 1000000), (91, 1000000)]),
    ([(1, 0, 729)], [(0, 0), (1, 1), (1, 1), (8, 8), (5, 5), (1, 1)], [], [], [(90, 1000000), (91, 1000000)]),
    ([(1, 0, 704)], [(0, 0), (1, 1), (1, 1), (8, 8), (5, 5), (0, 0)], [], [], [(90, 1000000), (91, 1000000)]),
    ([(1, 0, 729)], [(0, 0), (1, 1), (1, 1), (8, 8), (4, 4), (1, 1)], [], [], [(90, 1000000), (91, 1000000)]),
    ([(1, 0, 704)], [(0, 0), (1, 1), (1, 1), (8, 8), (4, 4), (0, 0)], [], [], [(90, 1000000), (91, 1000000)]),
    ([(1, 0, 729)], [(0, 0), (1, 1), (1, 1), (8, 8), (3, 3), (1, 1)], [], [], [(90, 1000000), (91, 1000000)]),
    ([(1, 0, 704)], [(0, 0), (1, 1), (1, 1), (8, 8), (3, 3), (0, 0)], [], [], [(90, 1000000), (91, 1000000)]),
    ([(1, 0, 729)], [(0, 0), (1, 1), (1, 1), (8, 8), (2, 2), (1, 1)], [], [], [(90, 1000000), (91, 1000000)]),
    ([(1, 0, 704)], [(0, 0), (1, 1), (1, 1), (8, 8), (2, 2), (0, 0)], [], [], [(90, 1000000), (91, 1000000)]),
    ([(1, 0, 729)], [(0, 0), (1, 1), (1, 1), (8, 8), (1, 1), (1, 1)], [], [], [(90, 1000000), (91, 1000000)]),
    ([(1, 0, 704)], [(0, 0), (1, 1), (1, 1), (8, 8), (1, 1), (0, 0)], [], [], [(90, 1000000), (91, 1000000)]),
    ([(1, 0, 729)], [(0, 0), (1, 1), (1, 1), (8, 8), (0, 0), (1, 1)], [], [], [(90, 1000000), (91, 1000000)]),
    ([(1, 0, 704)], [(0, 0), (1, 1), (1, 1), (8, 8), (0, 0), (0, 0)], [], [], [(90, 1000000), (91, 1000000)]),
    ([(1, 0, 1)], [(0, 0), (1, 1), (0, 0), (8, 8), (9, 9), (1, 1)], [], [], [(90, 1000000), (91, 1000000)]),
    ([(1, 0, 1)], [(0, 0), (1, 1), (0, 0), (8, 8), (9, 9), (0, 0)], [], [], [(90, 1000000), (91, 1000000)]),
    ([(1, 0, 6561)], [(0, 0), (1, 1), (0, 0), (8, 8), (8, 8), (1, 1)], [], [], [(90, 1000000), (91, 1000000)]),
    ([(1, 0, 6536)], [(0, 0), (1, 1), (0, 0), (8, 8), (8, 8), (0, 0)], [], [], [(90, 1000000), (91, 1000000)]),
    ([(1, 0, 2187)], [(0, 0), (1, 1), (0, 0), (8, 8), (7, 7), (1, 1)], [], [], [(90, 1000000), (91, 1000000)]),
    ([(1, 0, 2176)], [(0, 0), (1, 1), (0, 0), (8, 8), (7, 7), (0, 0)], [], [], [(90, 1000000), (91, 1000000)]),
    ([(1, 0, 2187)], [(0, 0), (1, 1), (0, 0), (8, 8), (6, 6), (1, 1)], [], [], [(90, 1000000), (91, 1000000)]),
    ([(1, 0, 2176)], [(0, 0), (1, 1), (0, 0), (8, 8), (6, 6), (0, 0)], [], [], [(90, 1000000), (91, 1000000)]),
    ([(1, 0, 2187)], [(0, 0), (1, 1), (0, 0), (8, 8), (5, 5), (1, 1)], [], [], [(90, 1000000), (91, 1000000)]),
    ([(1, 0, 2176)], [(0, 0), (1, 1), (0, 0), (8, 8), (5, 5), (0, 0)], [], [], [(90, 1000000), (91, 1000000)]),
    ([(1, 0, 2187)], [(0, 0), (1, 1), (0, 0), (8, 8), (4, 4), (1, 1)], [], [], [(90, 1000000), (91, 1000000)]),
    ([(1, 0, 2176)], [(0, 0), (1, 1), (0, 0), (8, 8), (4, 4), (0, 0)], [], [], [(90, 1000000), (91, 1000000)]),
    ([(1, 0, 2187)], [(0, 0), (1, 1), (0, 0), (8, 8), (3, 3), (1, 1)], [], [], [(90, 1000000), (91, 1000000)]),
    ([(1, 0, 2176)], [(0, 0), (1, 1), (0, 0), (8, 8), (3, 3), (0, 0)], [], [], [(90, 1000000), (91, 1000000)]),
    ([(1, 0, 2187)], [(0, 0), (1, 1), (0, 0), (8, 8), (2, 2), (1, 1)], [], [], [(90, 1000000), (91, 1000000)]),
    ([(1, 0, 2176)], [(0, 0), (1, 1), (0, 0), (8, 8), (2, 2), (0, 0)], [], [], [(90, 1000000), (91, 1000000)]),
    ([(1, 0, 2187)], [(0, 0), (1, 1), (0, 0), (8, 8), (1, 1), (1, 1)], [], [], [(90, 1000000), (91, 1000000)]),
    ([(1, 0, 2176)], [(0, 0), (1, 1), (0, 0), (8, 8), (1, 1), (0, 0)], [], [], [(90, 1000000), (91, 1000000)]),
    ([(1, 0, 2187)], [(0, 0), (1, 1), (0, 0), (8, 8), (0, 0), (1, 1)], [], [], [(90, 1000000), (91, 1000000)]),
    ([(1, 0, 2176)], [(0, 0), (1, 1), (0, 0), (8, 8), (0, 0), (0, 0)], [], [], [(90, 1000000), (91, 1000000)]),
    ([(1, 0, 1)], [(0, 0), (0, 0), (2, 2), (8, 8), (9, 9), (1, 1)], [], [], [(90, 1000000), (91, 1000000)]),
    ([(1, 0, 1)], [(0, 0), (0, 0), (2, 2), (8, 8), (9, 9), (0, 0)], [], [], [(90, 1000000), (91, 1000000)]),
    ([(1, 0, 81)], [(0, 0), (0, 0), (2, 2), (8, 8), (8, 8), (1, 1)], [], [], [(90, 1000000), (91, 1000000)]),
    ([(1, 0, 64)], [(0, 0), (0, 0), (2, 2), (8, 8), (8, 8), (0, 0)], [], [], [(90, 1000000), (91, 1000000)]),
    ([(1, 0, 729)], [(0, 0), (0, 0), (2, 2), (8, 8), (7, 7), (1, 1)], [], [], [(90, 1000000), (91, 1000000)]),
    ([(1, 0, 512)], [(0, 0), (0, 0), (2, 2), (8, 8), (7, 7), (0, 0)], [], [], [(90, 1000000), (91, 1000000)]),
    ([(1, 0, 729)], [(0, 0), (0, 0), (2, 2), (8, 8), (6, 6), (1, 1)], [], [], [(90, 1000000), (91, 1000000)]),
    ([(1, 0, 512)], [(0, 0), (0, 0), (2, 2), (8, 8), (6, 6), (0, 0)], [], [], [(90, 1000000), (91, 1000000)]),
    ([(1, 0, 729)], [(0, 0), (0, 0), (2, 2), (8, 8), (5, 5), (1, 1)], [], [], [(90, 1000000), (91, 1000000)]),
    ([(1, 0, 512)], [(0, 0), (0, 0), (2, 2), (8, 8), (5, 5), (0, 0)], [], [], [(90, 1000000), (91, 1000000)]),
    ([(1, 0, 729)], [(0, 0), (0, 0), (2, 2), (8, 8), (4, 4), (1, 1)], [], [], [(90, 1000000), (91, 1000000)]),
    ([(1, 0, 512)], [(0, 0), (0, 0), (2, 2), (8, 8), (4, 4), (0, 0)], [], [], [(90, 1000000), (91, 1000000)]),
    ([(1, 0, 729)], [(0, 0), (0, 0), (2, 2), (8, 8), (3, 3), (1, 1)], [], [], [(90, 1000000), (91, 1000000)]),
    ([(1, 0, 512)], [(0, 0), (0, 0), (2, 2), (8, 8), (3, 3), (0, 0)], [], [], [(90, 1000000), (91, 1000000)]),
    ([(1, 0, 729)], [(0, 0), (0, 0), (2, 2), (8, 8), (2, 2), (1, 1)], [], [], [(90, 1000000), (91, 1000000)]),
    ([(1, 0, 512)], [(0, 0), (0, 0), (2, 2), (8, 8), (2, 2), (0, 0)], [], [], [(90, 1000000), (91, 1000000)]),
    ([(1, 0, 729)], [(0, 0), (0, 0), (2, 2), (8, 8), (1, 1), (1, 1)], [], [], [(90, 1000000), (91, 1000000)]),
    ([(1, 0, 512)], [(0, 0), (0, 0), (2, 2), (8, 8), (1, 1), (0, 0)], [], [], [(90, 1000000), (91, 1000000)]),
    ([(1, 0, 729)], [(0, 0), (0, 0), (2, 2), (8, 8), (0, 0), (1, 1)], [], [], [(90, 1000000), (91, 1000000)]),
    ([(1, 0, 512)], [(0, 0), (0, 0), (2, 2), (8, 8), (0, 0), (0, 0)], [], [], [(90, 1000000), (91, 1000000)]),
    ([(1, 0, 1)], [(0, 0), (0, 0), (1, 1), (8, 8), (9, 9), (1, 1)], [], [], [(90, 1000000), (91, 1000000)]),
    ([(1, 0, 1)], [(0, 0), (0, 0), (1, 1), (8, 8), (9, 9), (0, 0)], [], [], [(90, 1000000), (91, 1000000)]),
    ([(1, 0, 6561)], [(0, 0), (0, 0), (1, 1), (8, 8), (8, 8), (1, 1)], [], [], [(90, 1000000), (91, 1000000)]),
    ([(1, 0, 6272)], [(0, 0), (0, 0), (1, 1), (8, 8), (8, 8), (0, 0)], [], [], [(90, 1000000), (91, 1000000)]),
    ([(1, 0, 2187)], [(0, 0), (0, 0), (1, 1), (8, 8), (7, 7), (1, 1)], [], [], [(90, 1000000), (91, 1000000)]),
    ([(1, 0, 2048)], [(0, 0), (0, 0), (1, 1), (8, 8), (7, 7), (0, 0)], [], [], [(90, 1000000), (91, 1000000)]),
    ([(1, 0, 2187)], [(0, 0), (0, 0), (1, 1), (8, 8), (6, 6), (1, 1)], [], [], [(90, 1000000), (91, 1000000)]),
    ([(1, 0, 2048)], [(0, 0), (0, 0), (1, 1), (8, 8), (6, 6), (0, 0)], [], [], [(90, 1000000), (91, 1000000)]),
    ([(1, 0, 2187)], [(0, 0), (0, 0), (1, 1), (8, 8), (5, 5), (1, 1)], [], [], [(90, 1000000), (91, 1000000)]),
    ([(1, 0, 2048)], [(0, 0), (0, 0), (1, 1), (8, 8), (5, 5), (0, 0)], [], [], [(90, 1000000), (91, 1000000)]),
    ([(1, 0, 2187)], [(0, 0), (0, 0), (1, 1), (8, 8), (4, 4), (1, 1)], [], [], [(90, 1000000), (91, 1000000)]),
    ([(1, 0, 2048)], [(0, 0), (0, 0), (1, 1), (8, 8), (4, 4), (0, 0)], [], [], [(90, 1000000), (91, 1000000)]),
    ([(1, 0, 2187)], [(0, 0), (0, 0), (1, 1), (8, 8), (3, 3), (1, 1)], [], [], [(90, 1000000), (91, 1000000)]),
    ([(1, 0, 2048)], [(0, 0), (0, 0), (1, 1), (8, 8), (3, 3), (0, 0)], [], [], [(90, 1000000), (91, 1000000)]),
    ([(1, 0, 2187)], [(0, 0), (0, 0), (1, 1), (8, 8), (2, 2), (1, 1)], [], [], [(90, 1000000), (91, 1000000)]),
    ([(1, 0, 2048)], [(0, 0), (0, 0), (1, 1), (8, 8), (2, 2), (0, 0)], [], [], [(90, 1000000), (91, 1000000)]),
    ([(1, 0, 2187)], [(0, 0), (0, 0), (1, 1), (8, 8), (1, 1), (1, 1)], [], [], [(90, 1000000), (91, 1000000)]),
    ([(1, 0, 2048)], [(0, 0), (0, 0), (1, 1), (8, 8), (1, 1), (0, 0)], [], [], [(90, 1000000), (91, 1000000)]),
    ([(1, 0, 2187)], [(0, 0), (0, 0), (1, 1), (8, 8), (0, 0), (1, 1)], [], [], [(90, 1000000), (91, 1000000)]),
    ([(1, 0, 2048)], [(0, 0), (0, 0), (1, 1), (8, 8), (0, 0), (0, 0)], [], [], [(90, 1000000), (91, 1000000)]),
    ([(1, 0, 1)], [(0, 0), (0, 0), (0, 0), (8, 8), (9, 9), (1, 1)], [], [], [(90, 1000000), (91, 1000000)]),
    ([(1, 0, 1)], [(0, 0), (0, 0), (0, 0), (8, 8), (9, 9), (0, 0)], [], [], [(90, 1000000), (91, 1000000)]),
    ([(1, 0, 19683)], [(0, 0), (0, 0), (0, 0), (8, 8), (8, 8), (1, 1)], [], [], [(90, 1000000), (91, 1000000)]),
    ([(1, 0, 19520)], [(0, 0), (0, 0), (0, 0), (8, 8), (8, 8), (0, 0)], [], [], [(90, 1000000), (91, 1000000)]),
    ([(1, 0, 19683)], [(0, 0), (0, 0), (0, 0), (8, 8), (7, 7), (1, 1)], [], [], [(90, 1000000), (91, 1000000)]),
    ([(1, 0, 19456)], [(0, 0), (0, 0), (0, 0), (8, 8), (7, 7), (0, 0)], [], [], [(90, 1000000), (91, 1000000)]),
    ([(1, 0, 19683)], [(0, 0), (0, 0), (0, 0), (8, 8), (6, 6), (1, 1)], [], [], [(90, 1000000), (91, 1000000)]),
    ([(1, 0, 19456)], [(0, 0), (0, 0), (0, 0), (8, 8), (6, 6), (0, 0)], [], [], [(90, 1000000), (91, 1000000)]),
    ([(1, 0, 19683)], [(0, 0), (0, 0), (0, 0), (8, 8), (5, 5), (1, 1)], [], [], [(90, 1000000), (91, 1000000)]),
    ([(1, 0, 19456)], [(0, 0), (0, 0), (0, 0), (8, 8), (5, 5), (0, 0)], [], [], [(90, 1000000), (91, 1000000)]),
    ([(1, 0, 19683)], [(0, 0), (0, 0), (0, 0), (8, 8), (4, 4), (1, 1)], [], [], [(90, 1000000), (91, 1000000)]),
    ([(1, 0, 19456)], [(0, 0), (0, 0), (0, 0), (8, 8), (4, 4), (0, 0)], [], [], [(90, 1000000), (91, 1000000)]),
    ([(1, 0, 19683)], [(0, 0), (0, 0), (0, 0), (8, 8), (3, 3), (1, 1)], [], [], [(90, 1000000), (91, 1000000)]),
    ([(1, 0, 19456)], [(0, 0), (0, 0), (0, 0), (8, 8), (3, 3), (0, 0)], [], [], [(90, 1000000), (91, 1000000)]),
    ([(1, 0, 19683)], [(0, 0), (0, 0), (0, 0), (8, 8), (2, 2), (1, 1)], [], [], [(90, 1000000), (91, 1000000)]),
    ([(1, 0, 19456)], [(0, 0), (0, 0), (0, 0), (8, 8), (2, 2), (0, 0)], [], [], [(90, 1000000), (91, 1000000)]),
    ([(1, 0, 19683)], [(0, 0), (0, 0), (0, 0), (8, 8), (1, 1), (1, 1)], [], [], [(90, 1000000), (91, 1000000)]),
    ([(1, 0, 19456)], [(0, 0), (0, 0), (0, 0), (8, 8), (1, 1), (0, 0)], [], [], [(90, 1000000), (91, 1000000)]),
    ([(1, 0, 19683)], [(0, 0), (0, 0), (0, 0), (8, 8), (0, 0), (1, 1)], [], [], [(90, 1000000), (91, 1000000)]),
    ([(1, 0, 19456)], [(0, 0), (0, 0), (0, 0), (8, 8), (0, 0), (0, 0)], [], [], [(90, 1000000), (91, 1000000)])])
def nxo_bolder_9 : List ab_OU := [([], [(0, 0), ((-2147483648), (-1)), ((-2147483648), 2147483647), (8, 8), ((-2147483648), 2147483647), ((-2147483648), 2147483647)], [], [], []),
    ([], [(0, 0), (3, 2147483647), ((-2147483648), 2147483647), (8, 8), ((-2147483648), 2147483647), ((-2147483648), 2147483647)], [], [], []),
    ([], [(0, 0), (0, 2), ((-2147483648), (-1)), (8, 8), ((-2147483648), 2147483647), ((-2147483648), 2147483647)], [], [], []),
    ([], [(0, 0), (0, 2), (3, 2147483647), (8, 8), ((-2147483648), 2147483647), ((-2147483648), 2147483647)], [], [], []),
    ([], [(0, 0), (0, 2), (0, 2), (8, 8), ((-2147483648), (-1)), ((-2147483648), 2147483647)], [], [], []),
    ([], [(0, 0), (0, 2), (0, 2), (8, 8), (10, 2147483647), ((-2147483648), 2147483647)], [], [], []),
    ([], [(0, 0), (0, 2), (0, 2), (8, 8), (0, 9), ((-2147483648), (-1))], [], [], []),
    ([], [(0, 0), (0, 2), (0, 2), (8, 8), (0, 9), (2, 2147483647)], [], [], [])]
def nxe_bolder_9_0 : ab_ND := (37, ([(0, (2, 0, 0)), (1, (0, 1, 0)), (2, (0, 2, 0)), (3, (0, 3, 0)), (4, (0, 4, 0)), (5, (0, 5, 0))], [], [(0, 0), ((-2147483648), (-1)), ((-2147483648), 2147483647), (8, 8), ((-2147483648), 2147483647), ((-2147483648), 2147483647)], [], [], []), ((0, [], []), (0, [], []), (0, [], [])))
def nxe_bolder_9_1 : ab_ND := (37, ([(0, (2, 0, 0)), (1, (0, 1, 0)), (2, (0, 2, 0)), (3, (0, 3, 0)), (4, (0, 4, 0)), (5, (0, 5, 0))], [], [(0, 0), (3, 2147483647), ((-2147483648), 2147483647), (8, 8), ((-2147483648), 2147483647), ((-2147483648), 2147483647)], [], [], []), ((0, [], []), (0, [], []), (0, [], [])))
def nxe_bolder_9_2 : ab_ND := (37, ([(0, (2, 0, 0)), (1, (0, 1, 0)), (2, (0, 2, 0)), (3, (0, 3, 0)), (4, (0, 4, 0)), (5, (0, 5, 0))], [], [(0, 0), (0, 2), ((-2147483648), (-1)), (8, 8), ((-2147483648), 2147483647), ((-2147483648), 2147483647)], [], [], []), ((0, [], []), (0, [], []), (0, [], [])))
def nxe_bolder_9_3 : ab_ND := (37, ([(0, (2, 0, 0)), (1, (0, 1, 0)), (2, (0, 2, 0)), (3, (0, 3, 0)), (4, (0, 4, 0)), (5, (0, 5, 0))], [], [(0, 0), (0, 2), (3, 2147483647), (8, 8), ((-2147483648), 2147483647), ((-2147483648), 2147483647)], [], [], []), ((0, [], []), (0, [], []), (0, [], [])))
def nxe_bolder_9_4 : ab_ND := (37, ([(0, (2, 0, 0)), (1, (0, 1, 0)), (2, (0, 2, 0)), (3, (0, 3, 0)), (4, (0, 4, 0)), (5, (0, 5, 0))], [], [(0, 0), (0, 2), (0, 2), (8, 8), ((-2147483648), (-1)), ((-2147483648), 2147483647)], [], [], []), ((0, [], []), (0, [], []), (0, [], [])))
def nxe_bolder_9_5 : ab_ND := (37, ([(0, (2, 0, 0)), (1, (0, 1, 0)), (2, (0, 2, 0)), (3, (0, 3, 0)), (4, (0, 4, 0)), (5, (0, 5, 0))], [], [(0, 0), (0, 2), (0, 2), (8, 8), (10, 2147483647), ((-2147483648), 2147483647)], [], [], []), ((0, [], []), (0, [], []), (0, [], [])))
def nxe_bolder_9_6 : ab_ND := (37, ([(0, (2, 0, 0)), (1, (0, 1, 0)), (2, (0, 2, 0)), (3, (0, 3, 0)), (4, (0, 4, 0)), (5, (0, 5, 0))], [], [(0, 0), (0, 2), (0, 2), (8, 8), (0, 9), ((-2147483648), (-1))], [], [], []), ((0, [], []), (0, [], []), (0, [], [])))
def nxe_bolder_9_7 : ab_ND := (37, ([(0, (2, 0, 0)), (1, (0, 1, 0)), (2, (0, 2, 0)), (3, (0, 3, 0)), (4, (0, 4, 0)), (5, (0, 5, 0))], [], [(0, 0), (0, 2), (0, 2), (8, 8), (0, 9), (2, 2147483647)], [], [], []), ((0, [], []), (0, [], []), (0, [], [])))
def nxm_bolder_9_0 : ab_ND := (0, (ab_en0 0 nxd_bolder_9.1, [], nxd_bolder_9.2.1, nxd_bolder_9.2.2.1, nxd_bolder_9.2.2.2.1, []), ((9000000000000000000000, [], []), (0, [], []), (0, [], [])))
def nxm_bolder_9_1 : ab_ND := (48, ([(0, (2, 0, 0)), (1, (0, 0, 2)), (2, (0, 0, 2)), (3, (0, 0, 8)), (4, (0, 4, 0)), (5, (0, 5, 0))], [(2, 0, 0)], [(0, 0), (2, 2), (2, 2), (8, 8), (0, 9), (0, 1)], [], [], []), ((0, [], []), (0, [], []), (0, [], [])))
def nxm_bolder_9_2 : ab_ND := (48, ([(0, (2, 0, 0)), (1, (0, 0, 2)), (2, (0, 0, 1)), (3, (0, 0, 8)), (4, (0, 4, 0)), (5, (0, 5, 0))], [(2, 0, 0)], [(0, 0), (2, 2), (1, 1), (8, 8), (0, 9), (0, 1)], [], [], []), ((1000000000000000000000, [], []), (0, [], []), (0, [], [])))
def nxm_bolder_9_3 : ab_ND := (48, ([(0, (2, 0, 0)), (1, (0, 0, 2)), (2, (0, 0, 0)), (3, (0, 0, 8)), (4, (0, 4, 0)), (5, (0, 5, 0))], [(2, 0, 0)], [(0, 0), (2, 2), (0, 0), (8, 8), (0, 9), (0, 1)], [], [], []), ((2000000000000000000000, [], []), (0, [], []), (0, [], [])))
def nxm_bolder_9_4 : ab_ND := (48, ([(0, (2, 0, 0)), (1, (0, 0, 1)), (2, (0, 0, 2)), (3, (0, 0, 8)), (4, (0, 4, 0)), (5, (0, 5, 0))], [(2, 0, 0)], [(0, 0), (1, 1), (2, 2), (8, 8), (0, 9), (0, 1)], [], [], []), ((3000000000000000000000, [], []), (0, [], []), (0, [], [])))
def nxm_bolder_9_5 : ab_ND := (48, ([(0, (2, 0, 0)), (1, (0, 0, 1)), (2, (0, 0, 1)), (3, (0, 0, 8)), (4, (0, 4, 0)), (5, (0, 5, 0))], [(2, 0, 0)], [(0, 0), (1, 1), (1, 1), (8, 8), (0, 9), (0, 1)], [], [], []), ((4000000000000000000000, [], []), (0, [], []), (0, [], [])))
def nxm_bolder_9_6 : ab_ND := (48, ([(0, (2, 0, 0)), (1, (0, 0, 1)), (2, (0, 0, 0)), (3, (0, 0, 8)), (4, (0, 4, 0)), (5, (0, 5, 0))], [(2, 0, 0)], [(0, 0), (1, 1), (0, 0), (8, 8), (0, 9), (0, 1)], [], [], []), ((5000000000000000000000, [], []), (0, [], []), (0, [], [])))
def nxm_bolder_9_7 : ab_ND := (48, ([(0, (2, 0, 0)), (1, (0, 0, 0)), (2, (0, 0, 2)), (3, (0, 0, 8)), (4, (0, 4, 0)), (5, (0, 5, 0))], [(2, 0, 0)], [(0, 0), (0, 0), (2, 2), (8, 8), (0, 9), (0, 1)], [], [], []), ((6000000000000000000000, [], []), (0, [], []), (0, [], [])))
def nxm_bolder_9_8 : ab_ND := (48, ([(0, (2, 0, 0)), (1, (0, 0, 0)), (2, (0, 0, 1)), (3, (0, 0, 8)), (4, (0, 4, 0)), (5, (0, 5, 0))], [(2, 0, 0)], [(0, 0), (0, 0), (1, 1), (8, 8), (0, 9), (0, 1)], [], [], []), ((7000000000000000000000, [], []), (0, [], []), (0, [], [])))
def nxm_bolder_9_9 : ab_ND := (48, ([(0, (2, 0, 0)), (1, (0, 0, 0)), (2, (0, 0, 0)), (3, (0, 0, 8)), (4, (0, 4, 0)), (5, (0, 5, 0))], [(2, 0, 0)], [(0, 0), (0, 0), (0, 0), (8, 8), (0, 9), (0, 1)], [], [], []), ((8000000000000000000000, [], []), (0, [], []), (0, [], [])))
def nxn_bolder_9 : List ab_ND := [nxm_bolder_9_0, nxm_bolder_9_1, nxm_bolder_9_2, nxm_bolder_9_3, nxm_bolder_9_4, nxm_bolder_9_5, nxm_bolder_9_6, nxm_bolder_9_7, nxm_bolder_9_8, nxm_bolder_9_9]
def nxk_bolder_9 : ab_KS := [(136, 0, le_736), (81, 0, le_737), (55, 0, le_738), (138, 1, le_747), (138, 1, le_753), (138, 1, le_762), (138, 1, le_766), (138, 1, le_768), (138, 1, le_776), (138, 1, le_780), (138, 1, le_782), (193, 0, le_786), (193, 0, le_787), (193, 0, le_789), (193, 0, le_790), (193, 0, le_815), (193, 0, le_816), (193, 0, le_827), (193, 0, le_828), (138, 1, le_840), (193, 0, le_841), (193, 0, le_842), (137, 2, le_1237), (137, 2, le_1238), (137, 2, le_1239), (137, 2, le_1240), (137, 2, le_1241), (137, 2, le_1242), (137, 2, le_1243), (137, 2, le_1244), (137, 2, le_1245), (137, 2, le_1246), (193, 0, le_1247), (193, 0, le_1248), (193, 0, le_1249), (193, 0, le_1250), (193, 0, le_1251), (193, 0, le_1252), (193, 0, le_1253), (193, 0, le_1254), (193, 0, le_1255), (193, 0, le_1256), (193, 0, le_1257), (193, 0, le_1258), (193, 0, le_1259), (193, 0, le_1260), (193, 0, le_1261), (193, 0, le_1262), (193, 0, le_1263), (193, 0, le_1264)]
theorem nxc_bolder_9_0 : ab_cn vwCl nn_T nn_C nn_sh nn_MT (nn_KI1.map (fun x => x.1)) (nn_KJ1.map (fun x => x.1)) (nn_PF1.map (fun x => x.1)) nn_kd (nn_PS1.map (fun x => x.1)) (nn_PM1.map (fun x => x.1)) nxk_bolder_9 3 0 nn_dt200 6 nxd_bolder_9.2.1.length nxd_bolder_9.2.2.2.2 2 [] [37, 47, 48] [(47, [(0, 3, 0, 0), (0, 1, 0, 0), (0, 2, 0, 0)]), (48, [(0, 4, 0, 0), (0, 5, 0, 0)])] [nxe_bolder_9_0, nxe_bolder_9_1, nxe_bolder_9_2, nxe_bolder_9_3, nxe_bolder_9_4, nxe_bolder_9_5, nxe_bolder_9_6, nxe_bolder_9_7] nxn_bolder_9 21 nxm_bolder_9_0 = true := by decide +kernel
theorem nxc_bolder_9_1 : ab_cn vwCl nn_T nn_C nn_sh nn_MT (nn_KI1.map (fun x => x.1)) (nn_KJ1.map (fun x => x.1)) (nn_PF1.map (fun x => x.1)) nn_kd (nn_PS1.map (fun x => x.1)) (nn_PM1.map (fun x => x.1)) nxk_bolder_9 3 0 nn_dt200 6 nxd_bolder_9.2.1.length nxd_bolder_9.2.2.2.2 2 [] [37, 47, 48] [(47, [(0, 3, 0, 0), (0, 1, 0, 0), (0, 2, 0, 0)]), (48, [(0, 4, 0, 0), (0, 5, 0, 0)])] [nxe_bolder_9_0, nxe_bolder_9_1, nxe_bolder_9_2, nxe_bolder_9_3, nxe_bolder_9_4, nxe_bolder_9_5, nxe_bolder_9_6, nxe_bolder_9_7] nxn_bolder_9 21 nxm_bolder_9_1 = true := by decide +kernel
theorem nxc_bolder_9_2 : ab_cn vwCl nn_T nn_C nn_sh nn_MT (nn_KI1.map (fun x => x.1)) (nn_KJ1.map (fun x => x.1)) (nn_PF1.map (fun x => x.1)) nn_kd (nn_PS1.map (fun x => x.1)) (nn_PM1.map (fun x => x.1)) nxk_bolder_9 3 0 nn_dt200 6 nxd_bolder_9.2.1.length nxd_bolder_9.2.2.2.2 2 [] [37, 47, 48] [(47, [(0, 3, 0, 0), (0, 1, 0, 0), (0, 2, 0, 0)]), (48, [(0, 4, 0, 0), (0, 5, 0, 0)])] [nxe_bolder_9_0, nxe_bolder_9_1, nxe_bolder_9_2, nxe_bolder_9_3, nxe_bolder_9_4, nxe_bolder_9_5, nxe_bolder_9_6, nxe_bolder_9_7] nxn_bolder_9 21 nxm_bolder_9_2 = true := by decide +kernel
theorem nxc_bolder_9_3 : ab_cn vwCl nn_T nn_C nn_sh nn_MT (nn_KI1.map (fun x => x.1)) (nn_KJ1.map (fun x => x.1)) (nn_PF1.map (fun x => x.1)) nn_kd (nn_PS1.map (fun x => x.1)) (nn_PM1.map (fun x => x.1)) nxk_bolder_9 3 0 nn_dt200 6 nxd_bolder_9.2.1.length nxd_bolder_9.2.2.2.2 2 [] [37, 47, 48] [(47, [(0, 3, 0, 0), (0, 1, 0, 0), (0, 2, 0, 0)]), (48, [(0, 4, 0, 0), (0, 5, 0, 0)])] [nxe_bolder_9_0, nxe_bolder_9_1, nxe_bolder_9_2, nxe_bolder_9_3, nxe_bolder_9_4, nxe_bolder_9_5, nxe_bolder_9_6, nxe_bolder_9_7] nxn_bolder_9 21 nxm_bolder_9_3 = true := by decide +kernel
theorem nxc_bolder_9_4 : ab_cn vwCl nn_T nn_C nn_sh nn_MT (nn_KI1.map (fun x => x.1)) (nn_KJ1.map (fun x => x.1)) (nn_PF1.map (fun x => x.1)) nn_kd (nn_PS1.map (fun x => x.1)) (nn_PM1.map (fun x => x.1)) nxk_bolder_9 3 0 nn_dt200 6 nxd_bolder_9.2.1.length nxd_bolder_9.2.2.2.2 2 [] [37, 47, 48] [(47, [(0, 3, 0, 0), (0, 1, 0, 0), (0, 2, 0, 0)]), (48, [(0, 4, 0, 0), (0, 5, 0, 0)])] [nxe_bolder_9_0, nxe_bolder_9_1, nxe_bolder_9_2, nxe_bolder_9_3, nxe_bolder_9_4, nxe_bolder_9_5, nxe_bolder_9_6, nxe_bolder_9_7] nxn_bolder_9 21 nxm_bolder_9_4 = true := by decide +kernel
theorem nxc_bolder_9_5 : ab_cn vwCl nn_T nn_C nn_sh nn_MT (nn_KI1.map (fun x => x.1)) (nn_KJ1.map (fun x => x.1)) (nn_PF1.map (fun x => x.1)) nn_kd (nn_PS1.map (fun x => x.1)) (nn_PM1.map (fun x => x.1)) nxk_bolder_9 3 0 nn_dt200 6 nxd_bolder_9.2.1.length nxd_bolder_9.2.2.2.2 2 [] [37, 47, 48] [(47, [(0, 3, 0, 0), (0, 1, 0, 0), (0, 2, 0, 0)]), (48, [(0, 4, 0, 0), (0, 5, 0, 0)])] [nxe_bolder_9_0, nxe_bolder_9_1, nxe_bolder_9_2, nxe_bolder_9_3, nxe_bolder_9_4, nxe_bolder_9_5, nxe_bolder_9_6, nxe_bolder_9_7] nxn_bolder_9 21 nxm_bolder_9_5 = true := by decide +kernel
theorem nxc_bolder_9_6 : ab_cn vwCl nn_T nn_C nn_sh nn_MT (nn_KI1.map (fun x => x.1)) (nn_KJ1.map (fun x => x.1)) (nn_PF1.map (fun x => x.1)) nn_kd (nn_PS1.map (fun x => x.1)) (nn_PM1.map (fun x => x.1)) nxk_bolder_9 3 0 nn_dt200 6 nxd_bolder_9.2.1.length nxd_bolder_9.2.2.2.2 2 [] [37, 47, 48] [(47, [(0, 3, 0, 0), (0, 1, 0, 0), (0, 2, 0, 0)]), (48, [(0, 4, 0, 0), (0, 5, 0, 0)])] [nxe_bolder_9_0, nxe_bolder_9_1, nxe_bolder_9_2, nxe_bolder_9_3, nxe_bolder_9_4, nxe_bolder_9_5, nxe_bolder_9_6, nxe_bolder_9_7] nxn_bolder_9 21 nxm_bolder_9_6 = true := by decide +kernel
theorem nxc_bolder_9_7 : ab_cn vwCl nn_T nn_C nn_sh nn_MT (nn_KI1.map (fun x => x.1)) (nn_KJ1.map (fun x => x.1)) (nn_PF1.map (fun x => x.1)) nn_kd (nn_PS1.map (fun x => x.1)) (nn_PM1.map (fun x => x.1)) nxk_bolder_9 3 0 nn_dt200 6 nxd_bolder_9.2.1.length nxd_bolder_9.2.2.2.2 2 [] [37, 47, 48] [(47, [(0, 3, 0, 0), (0, 1, 0, 0), (0, 2, 0, 0)]), (48, [(0, 4, 0, 0), (0, 5, 0, 0)])] [nxe_bolder_9_0, nxe_bolder_9_1, nxe_bolder_9_2, nxe_bolder_9_3, nxe_bolder_9_4, nxe_bolder_9_5, nxe_bolder_9_6, nxe_bolder_9_7] nxn_bolder_9 21 nxm_bolder_9_7 = true := by decide +kernel
theorem nxc_bolder_9_8 : ab_cn vwCl nn_T nn_C nn_sh nn_MT (nn_KI1.map (fun x => x.1)) (nn_KJ1.map (fun x => x.1)) (nn_PF1.map (fun x => x.1)) nn_kd (nn_PS1.map (fun x => x.1)) (nn_PM1.map (fun x => x.1)) nxk_bolder_9 3 0 nn_dt200 6 nxd_bolder_9.2.1.length nxd_bolder_9.2.2.2.2 2 [] [37, 47, 48] [(47, [(0, 3, 0, 0), (0, 1, 0, 0), (0, 2, 0, 0)]), (48, [(0, 4, 0, 0), (0, 5, 0, 0)])] [nxe_bolder_9_0, nxe_bolder_9_1, nxe_bolder_9_2, nxe_bolder_9_3, nxe_bolder_9_4, nxe_bolder_9_5, nxe_bolder_9_6, nxe_bolder_9_7] nxn_bolder_9 21 nxm_bolder_9_8 = true := by decide +kernel
theorem nxc_bolder_9_9 : ab_cn vwCl nn_T nn_C nn_sh nn_MT (nn_KI1.map (fun x => x.1)) (nn_KJ1.map (fun x => x.1)) (nn_PF1.map (fun x => x.1)) nn_kd (nn_PS1.map (fun x => x.1)) (nn_PM1.map (fun x => x.1)) nxk_bolder_9 3 0 nn_dt200 6 nxd_bolder_9.2.1.length nxd_bolder_9.2.2.2.2 2 [] [37, 47, 48] [(47, [(0, 3, 0, 0), (0, 1, 0, 0), (0, 2, 0, 0)]), (48, [(0, 4, 0, 0), (0, 5, 0, 0)])] [nxe_bolder_9_0, nxe_bolder_9_1, nxe_bolder_9_2, nxe_bolder_9_3, nxe_bolder_9_4, nxe_bolder_9_5, nxe_bolder_9_6, nxe_bolder_9_7] nxn_bolder_9 21 nxm_bolder_9_9 = true := by decide +kernel
theorem nxc_bolder_9 : nxn_bolder_9.all (ab_cn vwCl nn_T nn_C nn_sh nn_MT (nn_KI1.map (fun x => x.1)) (nn_KJ1.map (fun x => x.1)) (nn_PF1.map (fun x => x.1)) nn_kd (nn_PS1.map (fun x => x.1)) (nn_PM1.map (fun x => x.1)) nxk_bolder_9 3 0 nn_dt200 6 nxd_bolder_9.2.1.length nxd_bolder_9.2.2.2.2 2 [] [37, 47, 48] [(47, [(0, 3, 0, 0), (0, 1, 0, 0), (0, 2, 0, 0)]), (48, [(0, 4, 0, 0), (0, 5, 0, 0)])] [nxe_bolder_9_0, nxe_bolder_9_1, nxe_bolder_9_2, nxe_bolder_9_3, nxe_bolder_9_4, nxe_bolder_9_5, nxe_bolder_9_6, nxe_bolder_9_7] nxn_bolder_9 21) = true := List.all_eq_true.mpr (List.forall_mem_cons.mpr ⟨nxc_bolder_9_0, List.forall_mem_cons.mpr ⟨nxc_bolder_9_1, List.forall_mem_cons.mpr ⟨nxc_bolder_9_2, List.forall_mem_cons.mpr ⟨nxc_bolder_9_3, List.forall_mem_cons.mpr ⟨nxc_bolder_9_4, List.forall_mem_cons.mpr ⟨nxc_bolder_9_5, List.forall_mem_cons.mpr ⟨nxc_bolder_9_6, List.forall_mem_cons.mpr ⟨nxc_bolder_9_7, List.forall_mem_cons.mpr ⟨nxc_bolder_9_8, List.forall_mem_cons.mpr ⟨nxc_bolder_9_9, fun _ h => absurd h List.not_mem_nil⟩⟩⟩⟩⟩⟩⟩⟩⟩⟩)
set_option maxHeartbeats 4000000 in
theorem nxt_bolder_9 (l : Launch) (htr : l.stackTraces = false) (cy : Nat → ClassId) (ad wr cr : Nat → Nat) (D : va_G) (hinj : nn_inj ad) : nx_H l cy ad wr cr D (200, 3, nxd_bolder_9, nxo_bolder_9) := by
  refine nx_holdW (mr := (⟨"NameNotes", "bolder", "(IIIII)J"⟩, prog_1_method_37_code, 6, (Option.some Jvm.ClassFile.FieldType.long), 5, true, 2)) (dt := nn_dt200) (KS := nxk_bolder_9) htr hinj rfl rfl (by decide +kernel) nn_KI1_ok nn_KJ1_ok nn_PF1_ok nn_PS1_ok nn_PM1_ok (List.forall_mem_cons.mpr ⟨lf_736 l cy ad wr cr D hinj, List.forall_mem_cons.mpr ⟨lf_737 l cy ad wr cr D hinj, List.forall_mem_cons.mpr ⟨lf_738 l cy ad wr cr D hinj, List.forall_mem_cons.mpr ⟨lf_747 l cy ad wr cr D hinj, List.forall_mem_cons.mpr ⟨lf_753 l cy ad wr cr D hinj, List.forall_mem_cons.mpr ⟨lf_762 l cy ad wr cr D hinj, List.forall_mem_cons.mpr ⟨lf_766 l cy ad wr cr D hinj, List.forall_mem_cons.mpr ⟨lf_768 l cy ad wr cr D hinj, List.forall_mem_cons.mpr ⟨lf_776 l cy ad wr cr D hinj, List.forall_mem_cons.mpr ⟨lf_780 l cy ad wr cr D hinj, List.forall_mem_cons.mpr ⟨lf_782 l cy ad wr cr D hinj, List.forall_mem_cons.mpr ⟨lf_786 l cy ad wr cr D hinj, List.forall_mem_cons.mpr ⟨lf_787 l cy ad wr cr D hinj, List.forall_mem_cons.mpr ⟨lf_789 l cy ad wr cr D hinj, List.forall_mem_cons.mpr ⟨lf_790 l cy ad wr cr D hinj, List.forall_mem_cons.mpr ⟨lf_815 l cy ad wr cr D hinj, List.forall_mem_cons.mpr ⟨lf_816 l cy ad wr cr D hinj, List.forall_mem_cons.mpr ⟨lf_827 l cy ad wr cr D hinj, List.forall_mem_cons.mpr ⟨lf_828 l cy ad wr cr D hinj, List.forall_mem_cons.mpr ⟨lf_840 l cy ad wr cr D hinj, List.forall_mem_cons.mpr ⟨lf_841 l cy ad wr cr D hinj, List.forall_mem_cons.mpr ⟨lf_842 l cy ad wr cr D hinj, List.forall_mem_cons.mpr ⟨lf_1237 l cy ad wr cr D hinj, List.forall_mem_cons.mpr ⟨lf_1238 l cy ad wr cr D hinj, List.forall_mem_cons.mpr ⟨lf_1239 l cy ad wr cr D hinj, List.forall_mem_cons.mpr ⟨lf_1240 l cy ad wr cr D hinj, List.forall_mem_cons.mpr ⟨lf_1241 l cy ad wr cr D hinj, List.forall_mem_cons.mpr ⟨lf_1242 l cy ad wr cr D hinj, List.forall_mem_cons.mpr ⟨lf_1243 l cy ad wr cr D hinj, List.forall_mem_cons.mpr ⟨lf_1244 l cy ad wr cr D hinj, List.forall_mem_cons.mpr ⟨lf_1245 l cy ad wr cr D hinj, List.forall_mem_cons.mpr ⟨lf_1246 l cy ad wr cr D hinj, List.forall_mem_cons.mpr ⟨lf_1247 l cy ad wr cr D hinj, List.forall_mem_cons.mpr ⟨lf_1248 l cy ad wr cr D hinj, List.forall_mem_cons.mpr ⟨lf_1249 l cy ad wr cr D hinj, List.forall_mem_cons.mpr ⟨lf_1250 l cy ad wr cr D hinj, List.forall_mem_cons.mpr ⟨lf_1251 l cy ad wr cr D hinj, List.forall_mem_cons.mpr ⟨lf_1252 l cy ad wr cr D hinj, List.forall_mem_cons.mpr ⟨lf_1253 l cy ad wr cr D hinj, List.forall_mem_cons.mpr ⟨lf_1254 l cy ad wr cr D hinj, List.forall_mem_cons.mpr ⟨lf_1255 l cy ad wr cr D hinj, List.forall_mem_cons.mpr ⟨lf_1256 l cy ad wr cr D hinj, List.forall_mem_cons.mpr ⟨lf_1257 l cy ad wr cr D hinj, List.forall_mem_cons.mpr ⟨lf_1258 l cy ad wr cr D hinj, List.forall_mem_cons.mpr ⟨lf_1259 l cy ad wr cr D hinj, List.forall_mem_cons.mpr ⟨lf_1260 l cy ad wr cr D hinj, List.forall_mem_cons.mpr ⟨lf_1261 l cy ad wr cr D hinj, List.forall_mem_cons.mpr ⟨lf_1262 l cy ad wr cr D hinj, List.forall_mem_cons.mpr ⟨lf_1263 l cy ad wr cr D hinj, List.forall_mem_cons.mpr ⟨lf_1264 l cy ad wr cr D hinj, fun _ h => absurd h List.not_mem_nil⟩⟩⟩⟩⟩⟩⟩⟩⟩⟩⟩⟩⟩⟩⟩⟩⟩⟩⟩⟩⟩⟩⟩⟩⟩⟩⟩⟩⟩⟩⟩⟩⟩⟩⟩⟩⟩⟩⟩⟩⟩⟩⟩⟩⟩⟩⟩⟩⟩⟩) ?_
  intro p e s m below meth c R Q ρ σ hE hK hsy hP hRT hTH
  refine ab_entry (lev := 3) (sp := []) (HD := [37, 47, 48]) (HN := [(47, [(0, 3, 0, 0), (0, 1, 0, 0), (0, 2, 0, 0)]), (48, [(0, 4, 0, 0), (0, 5, 0, 0)])]) (EX := [nxe_bolder_9_0, nxe_bolder_9_1, nxe_bolder_9_2, nxe_bolder_9_3, nxe_bolder_9_4, nxe_bolder_9_5, nxe_bolder_9_6, nxe_bolder_9_7]) (NS := nxn_bolder_9) (fuel := 21) (mu := ((9000000000000000000000, [], []), (0, [], []), (0, [], []))) hE (by decide +kernel) hK hsy hP List.mem_cons_self hRT ?_ (fun nd hnd => List.all_eq_true.mp nxc_bolder_9 nd hnd)
  intro nd hnd ρ2 σ2 H locs ls st hG
  rcases List.mem_cons.mp hnd with rfl | hnd
  · exact hTH 37 _ ρ2 σ2 H locs ls st 213 "no such ones" 5 (by decide +kernel) rfl (by decide +kernel) (show decode prog_1_method_37_code 37 = .ok (.new 211, 3) by decide +kernel) (show decode prog_1_method_37_code 40 = .ok (.dup, 1) by decide +kernel) (Or.inl ⟨(show decode prog_1_method_37_code 41 = .ok (.ldc 213, 2) by decide +kernel), (show decode prog_1_method_37_code 43 = .ok (.invokespecial 215, 3) by decide +kernel), (show decode prog_1_method_37_code 46 = .ok (.athrow, 1) by decide +kernel)⟩) hG
  rcases List.mem_cons.mp hnd with rfl | hnd
  · exact hTH 37 _ ρ2 σ2 H locs ls st 213 "no such ones" 5 (by decide +kernel) rfl (by decide +kernel) (show decode prog_1_method_37_code 37 = .ok (.new 211, 3) by decide +kernel) (show decode prog_1_method_37_code 40 = .ok (.dup, 1) by decide +kernel) (Or.inl ⟨(show decode prog_1_method_37_code 41 = .ok (.ldc 213, 2) by decide +kernel), (show decode prog_1_method_37_code 43 = .ok (.invokespecial 215, 3) by decide +kernel), (show decode prog_1_method_37_code 46 = .ok (.athrow, 1) by decide +kernel)⟩) hG
  rcases List.mem_cons.mp hnd with rfl | hnd
  · exact hTH 37 _ ρ2 σ2 H locs ls st 213 "no such ones" 5 (by decide +kernel) rfl (by decide +kernel) (show decode prog_1_method_37_code 37 = .ok (.new 211, 3) by decide +kernel) (show decode prog_1_method_37_code 40 = .ok (.dup, 1) by decide +kernel) (Or.inl ⟨(show decode prog_1_method_37_code 41 = .ok (.ldc 213, 2) by decide +kernel), (show decode prog_1_method_37_code 43 = .ok (.invokespecial 215, 3) by decide +kernel), (show decode prog_1_method_37_code 46 = .ok (.athrow, 1) by decide +kernel)⟩) hG
  rcases List.mem_cons.mp hnd with rfl | hnd
  · exact hTH 37 _ ρ2 σ2 H locs ls st 213 "no such ones" 5 (by decide +kernel) rfl (by decide +kernel) (show decode prog_1_method_37_code 37 = .ok (.new 211, 3) by decide +kernel) (show decode prog_1_method_37_code 40 = .ok (.dup, 1) by decide +kernel) (Or.inl ⟨(show decode prog_1_method_37_code 41 = .ok (.ldc 213, 2) by decide +kernel), (show decode prog_1_method_37_code 43 = .ok (.invokespecial 215, 3) by decide +kernel), (show decode prog_1_method_37_code 46 = .ok (.athrow, 1) by decide +kernel)⟩) hG
  rcases List.mem_cons.mp hnd with rfl | hnd
  · exact hTH 37 _ ρ2 σ2 H locs ls st 213 "no such ones" 5 (by decide +kernel) rfl (by decide +kernel) (show decode prog_1_method_37_code 37 = .ok (.new 211, 3) by decide +kernel) (show decode prog_1_method_37_code 40 = .ok (.dup, 1) by decide +kernel) (Or.inl ⟨(show decode prog_1_method_37_code 41 = .ok (.ldc 213, 2) by decide +kernel), (show decode prog_1_method_37_code 43 = .ok (.invokespecial 215, 3) by decide +kernel), (show decode prog_1_method_37_code 46 = .ok (.athrow, 1) by decide +kernel)⟩) hG
  rcases List.mem_cons.mp hnd with rfl | hnd
  · exact hTH 37 _ ρ2 σ2 H locs ls st 213 "no such ones" 5 (by decide +kernel) rfl (by decide +kernel) (show decode prog_1_method_37_code 37 = .ok (.new 211, 3) by decide +kernel) (show decode prog_1_method_37_code 40 = .ok (.dup, 1) by decide +kernel) (Or.inl ⟨(show decode prog_1_method_37_code 41 = .ok (.ldc 213, 2) by decide +kernel), (show decode prog_1_method_37_code 43 = .ok (.invokespecial 215, 3) by decide +kernel), (show decode prog_1_method_37_code 46 = .ok (.athrow, 1) by decide +kernel)⟩) hG
  rcases List.mem_cons.mp hnd with rfl | hnd
  · exact hTH 37 _ ρ2 σ2 H locs ls st 213 "no such ones" 5 (by decide +kernel) rfl (by decide +kernel) (show decode prog_1_method_37_code 37 = .ok (.new 211, 3) by decide +kernel) (show decode prog_1_method_37_code 40 = .ok (.dup, 1) by decide +kernel) (Or.inl ⟨(show decode prog_1_method_37_code 41 = .ok (.ldc 213, 2) by decide +kernel), (show decode prog_1_method_37_code 43 = .ok (.invokespecial 215, 3) by decide +kernel), (show decode prog_1_method_37_code 46 = .ok (.athrow, 1) by decide +kernel)⟩) hG
  rcases List.mem_cons.mp hnd with rfl | hnd
  · exact hTH 37 _ ρ2 σ2 H locs ls st 213 "no such ones" 5 (by decide +kernel) rfl (by decide +kernel) (show decode prog_1_method_37_code 37 = .ok (.new 211, 3) by decide +kernel) (show decode prog_1_method_37_code 40 = .ok (.dup, 1) by decide +kernel) (Or.inl ⟨(show decode prog_1_method_37_code 41 = .ok (.ldc 213, 2) by decide +kernel), (show decode prog_1_method_37_code 43 = .ok (.invokespecial 215, 3) by decide +kernel), (show decode prog_1_method_37_code 46 = .ok (.athrow, 1) by decide +kernel)⟩) hG
  exact absurd hnd List.not_mem_nil
/-- NameNotes.bolder_10 -/
def nxd_bolder_10 : ab_CN := ([(2, 0, 0), (0, 1, 0), (0, 2, 0), (0, 3, 0), (0, 4, 0), (0, 5, 0)], [(0, 0), ((-2147483648), 2147483647), ((-2147483648), 2147483647), (9, 9), ((-2147483648), 2147483647), ((-2147483648), 2147483647)], [], [], [([(1, 0, 1)], [(0, 0), (2, 2), (2, 2), (9, 9), (9, 9), (1, 1)], [], [], [(90, 1000000), (91, 1000000)]),
    ([(1, 0, 1)], [(0, 0), (2, 2), (2, 2), (9, 9), (9, 9), (0, 0)], [], [], [(90, 1000000), (91, 1000000)]),
    ([(1, 0, 1)], [(0, 0), (2, 2), (2, 2), (9, 9), (8, 8), (1, 1)], [], [], [(90, 1000000), (91, 1000000)]),
    ([(1, 0, 1)], [(0, 0), (2, 2), (2, 2), (9, 9), (8, 8), (0, 0)], [], [], [(90, 1000000), (91, 1000000)]),
    ([(1, 0, 1)], [(0, 0), (2, 2), (2, 2), (9, 9), (7, 7), (1, 1)], [], [], [(90, 1000000), (91, 1000000)]),
    ([(1, 0, 1)], [(0, 0), (2, 2), (2, 2), (9, 9), (7, 7), (0, 0)], [], [], [(90, 1000000), (91, 1000000)]),
    ([(1, 0, 1)], [(0, 0), (2, 2), (2, 2), (9, 9), (6, 6), (1, 1)], [], [], [(90, 1000000), (91, 1000000)]),
    ([(1, 0, 1)], [(0, 0), (2, 2), (2, 2), (9, 9), (6, 6), (0, 0)], [], [], [(90, 1000000), (91, 1000000)]),
    ([(1, 0, 1)], [(0, 0), (2, 2), (2, 2), (9, 9), (5, 5), (1, 1)], [], [], [(90, 1000000), (91, 1000000)]),
    ([(1, 0, 1)], [(0, 0), (2, 2), (2, 2), (9, 9), (5, 5), (0, 0)], [], [], [(90, 1000000), (91, 1000000)]),
    ([(1, 0, 1)], [(0, 0), (2, 2), (2, 2), (9, 9), (4, 4), (1, 1)], [], [], [(90, 1000000), (91, 1000000)]),
    ([(1, 0, 1)], [(0, 0), (2, 2), (2, 2), (9, 9), (4, 4), (0, 0)], [], [], [(90, 1000000), (91, 1000000)]),
    ([(1, 0, 1)], [(0, 0), (2, 2), (2, 2), (9, 9), (3, 3), (1, 1)], [], [], [(90, 1000000), (91, 1000000)]),
    ([(1, 0, 1)], [(0, 0), (2, 2), (2, 2), (9, 9), (3, 3), (0, 0)], [], [], [(90, 1000000), (91, 1000000)]),
    ([(1, 0, 1)], [(0, 0), (2, 2), (2, 2), (9, 9), (2, 2), (1, 1)], [], [], [(90, 1000000), (91, 1000000)]),
    ([(1, 0, 1)], [(0, 0), (2, 2), (2, 2), (9, 9), (2, 2), (0, 0)], [], [], [(90, 1000000), (91, 1000000)]),
    ([(1, 0, 1)], [(0, 0), (2, 2), (2, 2), (9, 9), (1, 1), (1, 1)], [], [], [(90, 1000000), (91, 1000000)]),
    ([(1, 0, 1)], [(0, 0), (2, 2), (2, 2), (9, 9), (1, 1), (0, 0)], [], [], [(90, 1000000), (91, 1000000)]),
    ([(1, 0, 1)], [(0, 0), (2, 2), (2, 2), (9, 9), (0, 0), (1, 1)], [], [], [(90, 1000000), (91, 1000000)]),
    ([(1, 0, 1)], [(0, 0), (2, 2), (2, 2), (9, 9), (0, 0), (0, 0)], [], [], [(90, 1000000), (91, 1000000)]),
    ([(1, 0, 1)], [(0, 0), (2, 2), (1, 1), (9, 9), (9, 9), (1, 1)], [], [], [(90, 1000000), (91, 1000000)]),
    ([(1, 0, 1)], [(0, 0), (2, 2), (1, 1), (9, 9), (9, 9), (0, 0)], [], [], [(90, 1000000), (91, 1000000)]),
    ([(1, 0, 1)], [(0, 0), (2, 2), (1, 1), (9, 9), (8, 8), (1, 1)], [], [], [(90, 1000000), (91, 1000000)]),
    ([(1, 0, 1)], [(0, 0), (2, 2), (1, 1), (9, 9), (8, 8), (0, 0)], [], [], [(90, 1000000), (91, 1000000)]),
    ([(1, 0, 1)], [(0, 0), (2, 2), (1, 1), (9, 9), (7, 7), (1, 1)], [], [], [(90, 1000000), (91, 1000000)]),
    ([(1, 0, 1)], [(0, 0), (2, 2), (1, 1), (9, 9), (7, 7), (0, 0)], [], [], [(90, 1000000), (91, 1000000)]),
    ([(1, 0, 1)], [(0, 0), (2, 2), (1, 1), (9, 9), (6, 6), (1, 1)], [], [], [(90, 1000000), (91, 1000000)]),
    ([(1, 0, 1)], [(0, 0), (2, 2), (1, 1), (9, 9), (6, 6), (0, 0)], [], [], [(90, 1000000), (91, 1000000)]),
    ([(1, 0, 1)], [(0, 0), (2, 2), (1, 1), (9, 9), (5, 5), (1, 1)], [], [], [(90, 1000000), (91, 1000000)]),
    ([(1, 0, 1)], [(0, 0), (2, 2), (1, 1), (9, 9), (5, 5), (0, 0)], [], [], [(90, 1000000), (91, 1000000)]),
    ([(1, 0, 1)], [(0, 0), (2, 2), (1, 1), (9, 9), (4, 4), (1, 1)], [], [], [(90, 1000000), (91, 1000000)]),
    ([(1, 0, 1)], [(0, 0), (2, 2), (1, 1), (9, 9), (4, 4), (0, 0)], [], [], [(90, 1000000), (91, 1000000)]),
    ([(1, 0, 1)], [(0, 0), (2, 2), (1, 1), (9, 9), (3, 3), (1, 1)], [], [], [(90, 1000000), (91, 1000000)]),
    ([(1, 0, 1)], [(0, 0), (2, 2), (1, 1), (9, 9), (3, 3), (0, 0)], [], [], [(90, 1000000), (91, 1000000)]),
    ([(1, 0, 1)], [(0, 0), (2, 2), (1, 1), (9, 9), (2, 2), (1, 1)], [], [], [(90, 1000000), (91, 1000000)]),
    ([(1, 0, 1)], [(0, 0), (2, 2), (1, 1), (9, 9), (2, 2), (0, 0)], [], [], [(90, 1000000), (91, 1000000)]),
    ([(1, 0, 1)], [(0, 0), (2, 2), (1, 1), (9, 9), (1, 1), (1, 1)], [], [], [(90, 1000000), (91, 1000000)]),
    ([(1, 0, 1)], [(0, 0), (2, 2), (1, 1), (9, 9), (1, 1), (0, 0)], [], [], [(90, 1000000), (91, 1000000)]),
    ([(1, 0, 1)], [(0, 0), (2, 2), (1, 1), (9, 9), (0, 0), (1, 1)], [], [], [(90, 1000000), (91, 1000000)]),
    ([(1, 0, 1)], [(0, 0), (2, 2), (1, 1), (9, 9), (0, 0), (0, 0)], [], [], [(90, 1000000), (91, 1000000)]),
    ([(1, 0, 1)], [(0, 0), (2, 2), (0, 0), (9, 9), (9, 9), (1, 1)], [], [], [(90, 1000000), (91, 1000000)]),
    ([(1, 0, 1)], [(0, 0), (2, 2), (0, 0), (9, 9), (9, 9), (0, 0)], [], [], [(90, 1000000), (91, 1000000)]),
    ([(1, 0, 1)], [(0, 0), (2, 2), (0, 0), (9, 9), (8, 8), (1, 1)], [], [], [(90, 1000000), (91, 1000000)]),
    ([(1, 0, 1)], [(0, 0), (2, 2), (0, 0), (9, 9), (8, 8), (0, 0)], [], [], [(90, 1000000), (91, 1000000)]),
    ([(1, 0, 1)], [(0, 0), (2, 2), (0, 0), (9, 9), (7, 7), (1, 1)], [], [], [(90, 1000000), (91, 1000000)]),
    ([(1, 0, 1)], [(0, 0), (2, 2), (0, 0), (9, 9), (7, 7), (0, 0)], [], [], [(90, 1000000), (91, 1000000)]),
    ([(1, 0, 1)], [(0, 0), (2, 2), (0, 0), (9, 9), (6, 6), (1, 1)], [], [], [(90, 1000000), (91, 1000000)]),
    ([(1, 0, 1)], [(0, 0), (2, 2), (0, 0), (9, 9), (6, 6), (0, 0)], [], [], [(90, 1000000), (91, 1000000)]),
    ([(1, 0, 1)], [(0, 0), (2, 2), (0, 0), (9, 9), (5, 5), (1, 1)], [], [], [(90, 1000000), (91, 1000000)]),
    ([(1, 0, 1)], [(0, 0), (2, 2), (0, 0), (9, 9), (5, 5), (0, 0)], [], [], [(90, 1000000), (91, 1000000)]),
    ([(1, 0, 1)], [(0, 0), (2, 2), (0, 0), (9, 9), (4, 4), (1, 1)], [], [], [(90, 1000000), (91, 1000000)]),
    ([(1, 0, 1)], [(0, 0), (2, 2), (0, 0), (9, 9), (4, 4), (0, 0)], [], [], [(90, 1000000), (91, 1000000)]),
    ([(1, 0, 1)], [(0, 0), (2, 2), (0, 0), (9, 9), (3, 3), (1, 1)], [], [], [(90, 1000000), (91, 1000000)]),
    ([(1, 0, 1)], [(0, 0), (2, 2), (0, 0), (9, 9), (3, 3), (0, 0)], [], [], [(90, 1000000), (91, 1000000)]),
    ([(1, 0, 1)], [(0, 0), (2, 2), (0, 0), (9, 9), (2, 2), (1, 1)], [], [], [(90, 1000000), (91, 1000000)]),
    ([(1, 0, 1)], [(0, 0), (2, 2), (0, 0), (9, 9), (2, 2), (0, 0)], [], [], [(90, 1000000), (91, 1000000)]),
    ([(1, 0, 1)], [(0, 0), (2, 2), (0, 0), (9, 9), (1, 1), (1, 1)], [], [], [(90, 1000000), (91, 1000000)]),
    ([(1, 0, 1)], [(0, 0), (2, 2), (0, 0), (9, 9), (1, 1), (0, 0)], [], [], [(90, 1000000), (91, 1000000)]),
    ([(1, 0, 1)], [(0, 0), (2, 2), (0, 0), (9, 9), (0, 0), (1, 1)], [], [], [(90, 1000000), (91, 1000000)]),
    ([(1, 0, 1)], [(0, 0), (2, 2), (0, 0), (9, 9), (0, 0), (0, 0)], [], [], [(90, 1000000), (91, 1000000)]),
    ([(1, 0, 1)], [(0, 0), (1, 1), (2, 2), (9, 9), (9, 9), (1, 1)], [], [], [(90, 1000000), (91, 1000000)]),
    ([(1, 0, 1)], [(0, 0), (1, 1), (2, 2), (9, 9), (9, 9), (0, 0)], [], [], [(90, 1000000), (91, 1000000)]),
    ([(1, 0, 1)], [(0, 0), (1, 1), (2, 2), (9, 9), (8, 8), (1, 1)], [], [], [(90, 1000000), (91, 1000000)]),
    ([(1, 0, 1)], [(0, 0), (1, 1), (2, 2), (9, 9), (8, 8), (0, 0)], [], [], [(90, 1000000), (91, 1000000)]),
    ([(1, 0, 1)], [(0, 0), (1, 1), (2, 2), (9, 9), (7, 7), (1, 1)], [], [], [(90, 1000000), (91, 1000000)]),
    ([(1, 0, 1)], [(0, 0), (1, 1), (2, 2), (9, 9), (7, 7), (0, 0)], [], [], [(90, 1000000), (91, 1000000)]),
    ([(1, 0, 1)], [(0, 0), (1, 1), (2, 2), (9, 9), (6, 6), (1, 1)], [], [], [(90, 1000000), (91, 1000000)]),
    ([(1, 0, 1)], [(0, 0), (1, 1), (2, 2), (9, 9), (6, 6), (0, 0)], [], [], [(90, 1000000), (91, 1000000)]),
    ([(1, 0, 1)], [(0, 0), (1, 1), (2, 2), (9, 9), (5, 5), (1, 1)], [], [], [(90, 1000000), (91, 1000000)]),
    ([(1, 0, 1)], [(0, 0), (1, 1), (2, 2), (9, 9), (5, 5), (0, 0)], [], [], [(90, 1000000), (91, 1000000)]),
    ([(1, 0, 1)], [(0, 0), (1, 1), (2, 2), (9, 9), (4, 4), (1, 1)], [], [], [(90, 1000000), (91, 1000000)]),
    ([(1, 0, 1)], [(0, 0), (1, 1), (2, 2), (9, 9), (4, 4), (0, 0)], [], [], [(90, 1000000), (91, 1000000)]),
    ([(1, 0, 1)], [(0, 0), (1, 1), (2, 2), (9, 9), (3, 3), (1, 1)], [], [], [(90, 1000000), (91, 1000000)]),
    ([(1, 0, 1)], [(0, 0), (1, 1), (2, 2), (9, 9), (3, 3), (0, 0)], [], [], [(90, 1000000), (91, 1000000)]),
    ([(1, 0, 1)], [(0, 0), (1, 1), (2, 2), (9, 9), (2, 2), (1, 1)], [], [], [(90, 1000000), (91, 1000000)]),
    ([(1, 0, 1)], [(0, 0), (1, 1), (2, 2), (9, 9), (2, 2), (0, 0)], [], [], [(90, 1000000), (91, 1000000)]),
    ([(1, 0, 1)], [(0, 0), (1, 1), (2, 2), (9, 9), (1, 1), (1, 1)], [], [], [(90, 1000000), (91, 1000000)]),
    ([(1, 0, 1)], [(0, 0), (1, 1), (2, 2), (9, 9), (1, 1), (0, 0)], [], [], [(90, 1000000), (91, 1000000)]),
    ([(1, 0, 1)], [(0, 0), (1, 1), (2, 2), (9, 9), (0, 0), (1, 1)], [], [], [(90, 1000000), (91, 1000000)]),
    ([(1, 0, 1)], [(0, 0), (1, 1), (2, 2), (9, 9), (0, 0), (0, 0)], [], [], [(90, 1000000), (91, 1000000)]),
    ([(1, 0, 1)], [(0, 0), (1, 1), (1, 1), (9, 9), (9, 9), (1, 1)], [], [], [(90, 1000000), (91, 1000000)]),
    ([(1, 0, 1)], [(0, 0), (1, 1), (1, 1), (9, 9), (9, 9), (0, 0)], [], [], [(90, 1000000), (91, 1000000)]),
    ([(1, 0, 1)], [(0, 0), (1, 1), (1, 1), (9, 9), (8, 8), (1, 1)], [], [], [(90, 1000000), (91, 1000000)]),
    ([(1, 0, 1)], [(0, 0), (1, 1), (1, 1), (9, 9), (8, 8), (0, 0)], [], [], [(90, 1000000), (91, 1000000)]),
    ([(1, 0, 1)], [(0, 0), (1, 1), (1, 1), (9, 9), (7, 7), (1, 1)], [], [], [(90, 1000000), (91, 1000000)]),
    ([(1, 0, 1)], [(0, 0), (1, 1), (1, 1), (9, 9), (7, 7), (0, 0)], [], [], [(90, 1000000), (91, 1000000)]),
    ([(1, 0, 1)], [(0, 0), (1, 1), (1, 1), (9, 9), (6, 6), (1, 1)], [], [], [(90, 1000000), (91, 1000000)]),
    ([(1, 0, 1)], [(0, 0), (1, 1), (1, 1), (9, 9), (6, 6), (0, 0)], [], [], [(90, 1000000), (91, 1000000)]),
    ([(1, 0, 1)], [(0, 0), (1, 1), (1, 1), (9, 9), (5, 5), (1, 1)], [], [], [(90, 1000000), (91, 1000000)]),
    ([(1, 0, 1)], [(0, 0), (1, 1), (1, 1), (9, 9), (5, 5), (0, 0)], [], [], [(90, 1000000), (91, 1000000)]),
    ([(1, 0, 1)], [(0, 0), (1, 1), (1, 1), (9, 9), (4, 4), (1, 1)], [], [], [(90, 1000000), (91, 1000000)]),
    ([(1, 0, 1)], [(0, 0), (1, 1), (1, 1), (9, 9), (4, 4), (0, 0)], [], [], [(90, 1000000), (91, 1000000)]),
    ([(1, 0, 1)], [(0, 0), (1, 1), (1, 1), (9, 9), (3, 3), (1, 1)], [], [], [(90, 1000000), (91, 1000000)]),
    ([(1, 0, 1)], [(0, 0), (1, 1), (1, 1), (9, 9), (3, 3), (0, 0)], [], [], [(90, 1000000), (91, 1000000)]),
    ([(1, 0, 1)], [(0, 0), (1, 1), (1, 1), (9, 9), (2, 2), (1, 1)], [], [], [(90, 1000000), (91, 1000000)]),
    ([(1, 0, 1)], [(0, 0), (1, 1), (1, 1), (9, 9), (2, 2), (0, 0)], [], [], [(90, 1000000), (91, 1000000)]),
    ([(1, 0, 1)], [(0, 0), (1, 1), (1, 1), (9, 9), (1, 1), (1, 1)], [], [], [(90, 1000000), (91, 1000000)]),
    ([(1, 0, 1)], [(0, 0), (1, 1), (1, 1), (9, 9), (1, 1), (0, 0)], [], [], [(90, 1000000), (91, 1000000)]),
    ([(1, 0, 1)], [(0, 0), (1, 1), (1, 1), (9, 9), (0, 0), (1, 1)], [], [], [(90, 1000000), (91, 1000000)]),
    ([(1, 0, 1)], [(0, 0), (1, 1), (1, 1), (9, 9), (0, 0), (0, 0)], [], [], [(90, 1000000), (91, 1000000)]),
    ([(1, 0, 1)], [(0, 0), (1, 1), (0, 0), (9, 9), (9, 9), (1, 1)], [], [], [(90, 1000000), (91, 1000000)]),
    ([(1, 0, 1)], [(0, 0), (1, 1), (0, 0), (9, 9), (9, 9), (0, 0)], [], [], [(90, 1000000), (91, 1000000)]),
    ([(1, 0, 1)], [(0, 0), (1, 1), (0, 0), (9, 9), (8, 8), (1, 1)], [], [], [(90, 1000000), (91, 1000000)]),
    ([(1, 0, 1)], [(0, 0), (1, 1), (0, 0), (9, 9), (8, 8), (0, 0)], [], [], [(90, 1000000), (91, 1000000)]),
    ([(1, 0, 1)], [(0, 0), (1, 1), (0, 0), (9, 9), (7, 7), (1, 1)], [], [], [(90, 1000000), (91, 1000000)]),
    ([(1, 0, 1)], [(0, 0), (1, 1), (0, 0), (9, 9), (7, 7), (0, 0)], [], [], [(90, 1000000), (91, 1000000)]),
    ([(1, 0, 1)], [(0, 0), (1, 1), (0, 0), (9, 9), (6, 6), (1, 1)], [], [], [(90, 1000000), (91, 1000000)]),
    ([(1, 0, 1)], [(0, 0), (1, 1), (0, 0), (9, 9), (6, 6), (0, 0)], [], [], [(90, 1000000), (91, 1000000)]),
    ([(1, 0, 1)], [(0, 0), (1, 1), (0, 0), (9, 9), (5, 5), (1, 1)], [], [], [(90, 1000000), (91, 1000000)]),
    ([(1, 0, 1)], [(0, 0), (1, 1), (0, 0), (9, 9), (5, 5), (0, 0)], [], [], [(90, 1000000), (91, 1000000)]),
    ([(1, 0, 1)], [(0, 0), (1, 1), (0, 0), (9, 9), (4, 4), (1, 1)], [], [], [(90, 1000000), (91, 1000000)]),
    ([(1, 0, 1)], [(0, 0), (1, 1), (0, 0), (9, 9), (4, 4), (0, 0)], [], [], [(90, 1000000), (91, 1000000)]),
    ([(1, 0, 1)], [(0, 0), (1, 1), (0, 0), (9, 9), (3, 3), (1, 1)], [], [], [(90, 1000000), (91, 1000000)]),
    ([(1, 0, 1)], [(0, 0), (1, 1), (0, 0), (9, 9), (3, 3), (0, 0)], [], [], [(90, 1000000), (91, 1000000)]),
    ([(1, 0, 1)], [(0, 0), (1, 1), (0, 0), (9, 9), (2, 2), (1, 1)], [], [], [(90, 1000000), (91, 1000000)]),
    ([(1, 0, 1)], [(0, 0), (1, 1), (0, 0), (9, 9), (2, 2), (0, 0)], [], [], [(90, 1000000), (91, 1000000)]),
    ([(1, 0, 1)], [(0, 0), (1, 1), (0, 0), (9, 9), (1, 1), (1, 1)], [], [], [(90, 1000000), (91, 1000000)]),
    ([(1, 0, 1)], [(0, 0), (1, 1), (0, 0), (9, 9), (1, 1), (0, 0)], [], [], [(90, 1000000), (91, 1000000)]),
    ([(1, 0, 1)], [(0, 0), (1, 1), (0, 0), (9, 9), (0, 0), (1, 1)], [], [], [(90, 1000000), (91, 1000000)]),
    ([(1, 0, 1)], [(0, 0), (1, 1), (0, 0), (9, 9), (0, 0), (0, 0)], [], [], [(90, 1000000), (91, 1000000)]),
    ([(1, 0, 1)], [(0, 0), (0, 0), (2, 2), (9, 9), (9, 9), (1, 1)], [], [], [(90, 1000000), (91, 1000000)]),
    ([(1, 0, 1)], [(0, 0), (0, 0), (2, 2), (9, 9), (9, 9), (0, 0)], [], [], [(90, 1000000), (91, 1000000)]),
    ([(1, 0, 1)], [(0, 0), (0, 0), (2, 2), (9, 9), (8, 8), (1, 1)], [], [], [(90, 1000000), (91, 1000000)]),
    ([(1, 0, 1)], [(0, 0), (0, 0), (2, 2), (9, 9), (8, 8), (0, 0)], [], [], [(90, 1000000), (91, 1000000)]),
    ([(1, 0, 1)], [(0, 0), (0, 0), (2, 2), (9, 9), (7, 7), (1, 1)], [], [], [(90, 1000000), (91, 1000000)]),
    ([(1, 0, 1)], [(0, 0), (0, 0), (2, 2), (9, 9), (7, 7), (0, 0)], [], [], [(90, 1000000), (91, 1000000)]),
    ([(1, 0, 1)], [(0, 0), (0, 0), (2, 2), (9, 9), (6, 6), (1, 1)], [], [], [(90, 1000000), (91, 1000000)]),
    ([(1, 0, 1)], [(0, 0), (0, 0), (2, 2), (9, 9), (6, 6), (0, 0)], [], [], [(90, 1000000), (91, 1000000)]),
    ([(1, 0, 1)], [(0, 0), (0, 0), (2, 2), (9, 9), (5, 5), (1, 1)], [], [], [(90, 1000000), (91, 1000000)]),
    ([(1, 0, 1)], [(0, 0), (0, 0), (2, 2), (9, 9), (5, 5), (0, 0)], [], [], [(90, 1000000), (91, 1000000)]),
    ([(1, 0, 1)], [(0, 0), (0, 0), (2, 2), (9, 9), (4, 4), (1, 1)], [], [], [(90, 1000000), (91, 1000000)]),
    ([(1, 0, 1)], [(0, 0), (0, 0), (2, 2), (9, 9), (4, 4), (0, 0)], [], [], [(90, 1000000), (91, 1000000)]),
    ([(1, 0, 1)], [(0, 0), (0, 0), (2, 2), (9, 9), (3, 3), (1, 1)], [], [], [(90, 1000000), (91, 1000000)]),
    ([(1, 0, 1)], [(0, 0), (0, 0), (2, 2), (9, 9), (3, 3), (0, 0)], [], [], [(90, 1000000), (91, 1000000)]),
    ([(1, 0, 1)], [(0, 0), (0, 0), (2, 2), (9, 9), (2, 2), (1, 1)], [], [], [(90, 1000000), (91, 1000000)]),
    ([(1, 0, 1)], [(0, 0), (0, 0), (2, 2), (9, 9), (2, 2), (0, 0)], [], [], [(90, 1000000), (91, 1000000)]),
    ([(1, 0, 1)], [(0, 0), (0, 0), (2, 2), (9, 9), (1, 1), (1, 1)], [], [], [(90, 1000000), (91, 1000000)]),
    ([(1, 0, 1)], [(0, 0), (0, 0), (2, 2), (9, 9), (1, 1), (0, 0)], [], [], [(90, 1000000), (91, 1000000)]),
    ([(1, 0, 1)], [(0, 0), (0, 0), (2, 2), (9, 9), (0, 0), (1, 1)], [], [], [(90, 1000000), (91, 1000000)]),
    ([(1, 0, 1)], [(0, 0), (0, 0), (2, 2), (9, 9), (0, 0), (0, 0)], [], [], [(90, 1000000), (91, 1000000)]),
    ([(1, 0, 1)], [(0, 0), (0, 0), (1, 1), (9, 9), (9, 9), (1, 1)], [], [], [(90, 1000000), (91, 1000000)]),
    ([(1, 0, 1)], [(0, 0), (0, 0), (1, 1), (9, 9), (9, 9), (0, 0)], [], [], [(90, 1000000), (91, 1000000)]),
    ([(1, 0, 1)], [(0, 0), (0, 0), (1, 1), (9, 9), (8, 8), (1, 1)], [], [], [(90, 1000000), (91, 1000000)]),
    ([(1, 0, 1)], [(0, 0), (0, 0), (1, 1), (9, 9), (8, 8), (0, 0)], [], [], [(90, 1000000), (91, 1000000)]),
    ([(1, 0, 1)], [(0, 0), (0, 0), (1, 1), (9, 9), (7, 7), (1, 1)], [], [], [(90, 1000000), (91, 1000000)]),
    ([(1, 0, 1)], [(0, 0), (0, 0), (1, 1), (9, 9), (7, 7), (0, 0)], [], [], [(90, 1000000), (91, 1000000)]),
    ([(1, 0, 1)], [(0, 0), (0, 0), (1, 1), (9, 9), (6, 6), (1, 1)], [], [], [(90, 1000000), (91, 1000000)]),
    ([(1, 0, 1)], [(0, 0), (0, 0), (1, 1), (9, 9), (6, 6), (0, 0)], [], [], [(90, 1000000), (91, 1000000)]),
    ([(1, 0, 1)], [(0, 0), (0, 0), (1, 1), (9, 9), (5, 5), (1, 1)], [], [], [(90, 1000000), (91, 1000000)]),
    ([(1, 0, 1)], [(0, 0), (0, 0), (1, 1), (9, 9), (5, 5), (0, 0)], [], [], [(90, 1000000), (91, 1000000)]),
    ([(1, 0, 1)], [(0, 0), (0, 0), (1, 1), (9, 9), (4, 4), (1, 1)], [], [], [(90, 1000000), (91, 1000000)]),
    ([(1, 0, 1)], [(0, 0), (0, 0), (1, 1), (9, 9), (4, 4), (0, 0)], [], [], [(90, 1000000), (91, 1000000)]),
    ([(1, 0, 1)], [(0, 0), (0, 0), (1, 1), (9, 9), (3, 3), (1, 1)], [], [], [(90, 1000000), (91, 1000000)]),
    ([(1, 0, 1)], [(0, 0), (0, 0), (1, 1), (9, 9), (3, 3), (0, 0)], [], [], [(90, 1000000), (91, 1000000)]),
    ([(1, 0, 1)], [(0, 0), (0, 0), (1, 1), (9, 9), (2, 2), (1, 1)], [], [], [(90, 1000000), (91, 1000000)]),
    ([(1, 0, 1)], [(0, 0), (0, 0), (1, 1), (9, 9), (2, 2), (0, 0)], [], [], [(90, 1000000), (91, 1000000)]),
    ([(1, 0, 1)], [(0, 0), (0, 0), (1, 1), (9, 9), (1, 1), (1, 1)], [], [], [(90, 1000000), (91, 1000000)]),
    ([(1, 0, 1)], [(0, 0), (0, 0), (1, 1), (9, 9), (1, 1), (0, 0)], [], [], [(90, 1000000), (91, 1000000)]),
    ([(1, 0, 1)], [(0, 0), (0, 0), (1, 1), (9, 9), (0, 0), (1, 1)], [], [], [(90, 1000000), (91, 1000000)]),
    ([(1, 0, 1)], [(0, 0), (0, 0), (1, 1), (9, 9), (0, 0), (0, 0)], [], [], [(90, 1000000), (91, 1000000)]),
    ([(1, 0, 1)], [(0, 0), (0, 0), (0, 0), (9, 9), (9, 9), (1, 1)], [], [], [(90, 1000000), (91, 1000000)]),
    ([(1, 0, 1)], [(0, 0), (0, 0), (0, 0), (9, 9), (9, 9), (0, 0)], [], [], [(90, 1000000), (91, 1000000)]),
    ([(1, 0, 1)], [(0, 0), (0, 0), (0, 0), (9, 9), (8, 8), (1, 1)], [], [], [(90, 1000000), (91, 1000000)]),
    ([(1, 0, 1)], [(0, 0), (0, 0), (0, 0), (9, 9), (8, 8), (0, 0)], [], [], [(90, 1000000), (91, 1000000)]),
    ([(1, 0, 1)], [(0, 0), (0, 0), (0, 0), (9, 9), (7, 7), (1, 1)], [], [], [(90, 1000000), (91, 1000000)]),
    ([(1, 0, 1)], [(0, 0), (0, 0), (0, 0), (9, 9), (7, 7), (0, 0)], [], [], [(90, 1000000), (91, 1000000)]),
    ([(1, 0, 1)], [(0, 0), (0, 0), (0, 0), (9, 9), (6, 6), (1, 1)], [], [], [(90, 1000000), (91, 1000000)]),
    ([(1, 0, 1)], [(0, 0), (0, 0), (0, 0), (9, 9), (6, 6), (0, 0)], [], [], [(90, 1000000), (91, 1000000)]),
    ([(1, 0, 1)], [(0, 0), (0, 0), (0, 0), (9, 9), (5, 5), (1, 1)], [], [], [(90, 1000000), (91, 1000000)]),
    ([(1, 0, 1)], [(0, 0), (0, 0), (0, 0), (9, 9), (5, 5), (0, 0)], [], [], [(90, 1000000), (91, 1000000)]),
    ([(1, 0, 1)], [(0, 0), (0, 0), (0, 0), (9, 9), (4, 4), (1, 1)], [], [], [(90, 1000000), (91, 1000000)]),
    ([(1, 0, 1)], [(0, 0), (0, 0), (0, 0), (9, 9), (4, 4), (0, 0)], [], [], [(90, 1000000), (91, 1000000)]),
    ([(1, 0, 1)], [(0, 0), (0, 0), (0, 0), (9, 9), (3, 3), (1, 1)], [], [], [(90, 1000000), (91, 1000000)]),
    ([(1, 0, 1)], [(0, 0), (0, 0), (0, 0), (9, 9), (3, 3), (0, 0)], [], [], [(90, 1000000), (91, 1000000)]),
    ([(1, 0, 1)], [(0, 0), (0, 0), (0, 0), (9, 9), (2, 2), (1, 1)], [], [], [(90, 1000000), (91, 1000000)]),
    ([(1, 0, 1)], [(0, 0), (0, 0), (0, 0), (9, 9), (2, 2), (0, 0)], [], [], [(90, 1000000), (91, 1000000)]),
    ([(1, 0, 1)], [(0, 0), (0, 0), (0, 0), (9, 9), (1, 1), (1, 1)], [], [], [(90, 1000000), (91, 1000000)]),
    ([(1, 0, 1)], [(0, 0), (0, 0), (0, 0), (9, 9), (1, 1), (0, 0)], [], [], [(90, 1000000), (91, 1000000)]),
    ([(1, 0, 1)], [(0, 0), (0, 0), (0, 0), (9, 9), (0, 0), (1, 1)], [], [], [(90, 1000000), (91, 1000000)]),
    ([(1, 0, 1)], [(0, 0), (0, 0), (0, 0), (9, 9), (0, 0), (0, 0)], [], [], [(90, 1000000), (91, 1000000)])])
def nxo_bolder_10 : List ab_OU := [([], [(0, 0), ((-2147483648), (-1)), ((-2147483648), 2147483647), (9, 9), ((-2147483648), 2147483647), ((-2147483648), 2147483647)], [], [], []),
    ([], [(0, 0), (3, 2147483647), ((-2147483648), 2147483647), (9, 9), ((-2147483648), 2147483647), ((-2147483648), 2147483647)], [], [], []),
    ([], [(0, 0), (0, 2), ((-2147483648), (-1)), (9, 9), ((-2147483648), 2147483647), ((-2147483648), 2147483647)], [], [], []),
    ([], [(0, 0), (0, 2), (3, 2147483647), (9, 9), ((-2147483648), 2147483647), ((-2147483648), 2147483647)], [], [], []),
    ([], [(0, 0), (0, 2), (0, 2), (9, 9), ((-2147483648), (-1)), ((-2147483648), 2147483647)], [], [], []),
    ([], [(0, 0), (0, 2), (0, 2), (9, 9), (10, 2147483647), ((-2147483648), 2147483647)], [], [], []),
    ([], [(0, 0), (0, 2), (0, 2), (9, 9), (0, 9), ((-2147483648), (-1))], [], [], []),
    ([], [(0, 0), (0, 2), (0, 2), (9, 9), (0, 9), (2, 2147483647)], [], [], [])]
def nxe_bolder_10_0 : ab_ND := (37, ([(0, (2, 0, 0)), (1, (0, 1, 0)), (2, (0, 2, 0)), (3, (0, 3, 0)), (4, (0, 4, 0)), (5, (0, 5, 0))], [], [(0, 0), ((-2147483648), (-1)), ((-2147483648), 2147483647), (9, 9), ((-2147483648), 2147483647), ((-2147483648), 2147483647)], [], [], []), ((0, [], []), (0, [], []), (0, [], [])))
def nxe_bolder_10_1 : ab_ND := (37, ([(0, (2, 0, 0)), (1, (0, 1, 0)), (2, (0, 2, 0)), (3, (0, 3, 0)), (4, (0, 4, 0)), (5, (0, 5, 0))], [], [(0, 0), (3, 2147483647), ((-2147483648), 2147483647), (9, 9), ((-2147483648), 2147483647), ((-2147483648), 2147483647)], [], [], []), ((0, [], []), (0, [], []), (0, [], [])))
def nxe_bolder_10_2 : ab_ND := (37, ([(0, (2, 0, 0)), (1, (0, 1, 0)), (2, (0, 2, 0)), (3, (0, 3, 0)), (4, (0, 4, 0)), (5, (0, 5, 0))], [], [(0, 0), (0, 2), ((-2147483648), (-1)), (9, 9), ((-2147483648), 2147483647), ((-2147483648), 2147483647)], [], [], []), ((0, [], []), (0, [], []), (0, [], [])))
def nxe_bolder_10_3 : ab_ND := (37, ([(0, (2, 0, 0)), (1, (0, 1, 0)), (2, (0, 2, 0)), (3, (0, 3, 0)), (4, (0, 4, 0)), (5, (0, 5, 0))], [], [(0, 0), (0, 2), (3, 2147483647), (9, 9), ((-2147483648), 2147483647), ((-2147483648), 2147483647)], [], [], []), ((0, [], []), (0, [], []), (0, [], [])))
def nxe_bolder_10_4 : ab_ND := (37, ([(0, (2, 0, 0)), (1, (0, 1, 0)), (2, (0, 2, 0)), (3, (0, 3, 0)), (4, (0, 4, 0)), (5, (0, 5, 0))], [], [(0, 0), (0, 2), (0, 2), (9, 9), ((-2147483648), (-1)), ((-2147483648), 2147483647)], [], [], []), ((0, [], []), (0, [], []), (0, [], [])))
def nxe_bolder_10_5 : ab_ND := (37, ([(0, (2, 0, 0)), (1, (0, 1, 0)), (2, (0, 2, 0)), (3, (0, 3, 0)), (4, (0, 4, 0)), (5, (0, 5, 0))], [], [(0, 0), (0, 2), (0, 2), (9, 9), (10, 2147483647), ((-2147483648), 2147483647)], [], [], []), ((0, [], []), (0, [], []), (0, [], [])))
def nxe_bolder_10_6 : ab_ND := (37, ([(0, (2, 0, 0)), (1, (0, 1, 0)), (2, (0, 2, 0)), (3, (0, 3, 0)), (4, (0, 4, 0)), (5, (0, 5, 0))], [], [(0, 0), (0, 2), (0, 2), (9, 9), (0, 9), ((-2147483648), (-1))], [], [], []), ((0, [], []), (0, [], []), (0, [], [])))
def nxe_bolder_10_7 : ab_ND := (37, ([(0, (2, 0, 0)), (1, (0, 1, 0)), (2, (0, 2, 0)), (3, (0, 3, 0)), (4, (0, 4, 0)), (5, (0, 5, 0))], [], [(0, 0), (0, 2), (0, 2), (9, 9), (0, 9), (2, 2147483647)], [], [], []), ((0, [], []), (0, [], []), (0, [], [])))
def nxm_bolder_10_0 : ab_ND := (0, (ab_en0 0 nxd_bolder_10.1, [], nxd_bolder_10.2.1, nxd_bolder_10.2.2.1, nxd_bolder_10.2.2.2.1, []), ((9000000000000000000000, [], []), (0, [], []), (0, [], [])))
def nxm_bolder_10_1 : ab_ND := (48, ([(0, (2, 0, 0)), (1, (0, 0, 2)), (2, (0, 0, 2)), (3, (0, 0, 9)), (4, (0, 4, 0)), (5, (0, 5, 0))], [(2, 0, 0)], [(0, 0), (2, 2), (2, 2), (9, 9), (0, 9), (0, 1)], [], [], []), ((0, [], []), (0, [], []), (0, [], [])))
def nxm_bolder_10_2 : ab_ND := (48, ([(0, (2, 0, 0)), (1, (0, 0, 2)), (2, (0, 0, 1)), (3, (0, 0, 9)), (4, (0, 4, 0)), (5, (0, 5, 0))], [(2, 0, 0)], [(0, 0), (2, 2), (1, 1), (9, 9), (0, 9), (0, 1)], [], [], []), ((1000000000000000000000, [], []), (0, [], []), (0, [], [])))
def nxm_bolder_10_3 : ab_ND := (48, ([(0, (2, 0, 0)), (1, (0, 0, 2)), (2, (0, 0, 0)), (3, (0, 0, 9)), (4, (0, 4, 0)), (5, (0, 5, 0))], [(2, 0, 0)], [(0, 0), (2, 2), (0, 0), (9, 9), (0, 9), (0, 1)], [], [], []), ((2000000000000000000000, [], []), (0, [], []), (0, [], [])))
def nxm_bolder_10_4 : ab_ND := (48, ([(0, (2, 0, 0)), (1, (0, 0, 1)), (2, (0, 0, 2)), (3, (0, 0, 9)), (4, (0, 4, 0)), (5, (0, 5, 0))], [(2, 0, 0)], [(0, 0), (1, 1), (2, 2), (9, 9), (0, 9), (0, 1)], [], [], []), ((3000000000000000000000, [], []), (0, [], []), (0, [], [])))
def nxm_bolder_10_5 : ab_ND := (48, ([(0, (2, 0, 0)), (1, (0, 0, 1)), (2, (0, 0, 1)), (3, (0, 0, 9)), (4, (0, 4, 0)), (5, (0, 5, 0))], [(2, 0, 0)], [(0, 0), (1, 1), (1, 1), (9, 9), (0, 9), (0, 1)], [], [], []), ((4000000000000000000000, [], []), (0, [], []), (0, [], [])))
def nxm_bolder_10_6 : ab_ND := (48, ([(0, (2, 0, 0)), (1, (0, 0, 1)), (2, (0, 0, 0)), (3, (0, 0, 9)), (4, (0, 4, 0)), (5, (0, 5, 0))], [(2, 0, 0)], [(0, 0), (1, 1), (0, 0), (9, 9), (0, 9), (0, 1)], [], [], []), ((5000000000000000000000, [], []), (0, [], []), (0, [], [])))
def nxm_bolder_10_7 : ab_ND := (48, ([(0, (2, 0, 0)), (1, (0, 0, 0)), (2, (0, 0, 2)), (3, (0, 0, 9)), (4, (0, 4, 0)), (5, (0, 5, 0))], [(2, 0, 0)], [(0, 0), (0, 0), (2, 2), (9, 9), (0, 9), (0, 1)], [], [], []), ((6000000000000000000000, [], []), (0, [], []), (0, [], [])))
def nxm_bolder_10_8 : ab_ND := (48, ([(0, (2, 0, 0)), (1, (0, 0, 0)), (2, (0, 0, 1)), (3, (0, 0, 9)), (4, (0, 4, 0)), (5, (0, 5, 0))], [(2, 0, 0)], [(0, 0), (0, 0), (1, 1), (9, 9), (0, 9), (0, 1)], [], [], []), ((7000000000000000000000, [], []), (0, [], []), (0, [], [])))
def nxm_bolder_10_9 : ab_ND := (48, ([(0, (2, 0, 0)), (1, (0, 0, 0)), (2, (0, 0, 0)), (3, (0, 0, 9)), (4, (0, 4, 0)), (5, (0, 5, 0))], [(2, 0, 0)], [(0, 0), (0, 0), (0, 0), (9, 9), (0, 9), (0, 1)], [], [], []), ((8000000000000000000000, [], []), (0, [], []), (0, [], [])))
def nxn_bolder_10 : List ab_ND := [nxm_bolder_10_0, nxm_bolder_10_1, nxm_bolder_10_2, nxm_bolder_10_3, nxm_bolder_10_4, nxm_bolder_10_5, nxm_bolder_10_6, nxm_bolder_10_7, nxm_bolder_10_8, nxm_bolder_10_9]
def nxk_bolder_10 : ab_KS := [(136, 0, le_736), (81, 0, le_737), (55, 0, le_738), (138, 1, le_747), (138, 1, le_753), (138, 1, le_762), (138, 1, le_766), (138, 1, le_768), (138, 1, le_776), (138, 1, le_780), (138, 1, le_782), (193, 0, le_786), (193, 0, le_787), (138, 1, le_840), (137, 2, le_1265), (137, 2, le_1266), (137, 2, le_1267), (137, 2, le_1268), (137, 2, le_1269), (137, 2, le_1270), (137, 2, le_1271), (137, 2, le_1272), (137, 2, le_1273), (137, 2, le_1274)]
theorem nxc_bolder_10_0 : ab_cn vwCl nn_T nn_C nn_sh nn_MT (nn_KI1.map (fun x => x.1)) (nn_KJ1.map (fun x => x.1)) (nn_PF1.map (fun x => x.1)) nn_kd (nn_PS1.map (fun x => x.1)) (nn_PM1.map (fun x => x.1)) nxk_bolder_10 3 0 nn_dt200 6 nxd_bolder_10.2.1.length nxd_bolder_10.2.2.2.2 2 [] [37, 47, 48] [(47, [(0, 3, 0, 0), (0, 1, 0, 0), (0, 2, 0, 0)]), (48, [(0, 4, 0, 0), (0, 5, 0, 0)])] [nxe_bolder_10_0, nxe_bolder_10_1, nxe_bolder_10_2, nxe_bolder_10_3, nxe_bolder_10_4, nxe_bolder_10_5, nxe_bolder_10_6, nxe_bolder_10_7] nxn_bolder_10 21 nxm_bolder_10_0 = true := by decide +kernel
theorem nxc_bolder_10_1 : ab_cn vwCl nn_T nn_C nn_sh nn_MT (nn_KI1.map (fun x => x.1)) (nn_KJ1.map (fun x => x.1)) (nn_PF1.map (fun x => x.1)) nn_kd (nn_PS1.map (fun x => x.1)) (nn_PM1.map (fun x => x.1)) nxk_bolder_10 3 0 nn_dt200 6 nxd_bolder_10.2.1.length nxd_bolder_10.2.2.2.2 2 [] [37, 47, 48] [(47, [(0, 3, 0, 0), (0, 1, 0, 0), (0, 2, 0, 0)]), (48, [(0, 4, 0, 0), (0, 5, 0, 0)])] [nxe_bolder_10_0, nxe_bolder_10_1, nxe_bolder_10_2, nxe_bolder_10_3, nxe_bolder_10_4, nxe_bolder_10_5, nxe_bolder_10_6, nxe_bolder_10_7] nxn_bolder_10 21 nxm_bolder_10_1 = true := by decide +kernel
theorem nxc_bolder_10_2 : ab_cn vwCl nn_T nn_C nn_sh nn_MT (nn_KI1.map (fun x => x.1)) (nn_KJ1.map (fun x => x.1)) (nn_PF1.map (fun x => x.1)) nn_kd (nn_PS1.map (fun x => x.1)) (nn_PM1.map (fun x => x.1)) nxk_bolder_10 3 0 nn_dt200 6 nxd_bolder_10.2.1.length nxd_bolder_10.2.2.2.2 2 [] [37, 47, 48] [(47, [(0, 3, 0, 0), (0, 1, 0, 0), (0, 2, 0, 0)]), (48, [(0, 4, 0, 0), (0, 5, 0, 0)])] [nxe_bolder_10_0, nxe_bolder_10_1, nxe_bolder_10_2, nxe_bolder_10_3, nxe_bolder_10_4, nxe_bolder_10_5, nxe_bolder_10_6, nxe_bolder_10_7] nxn_bolder_10 21 nxm_bolder_10_2 = true := by decide +kernel
theorem nxc_bolder_10_3 : ab_cn vwCl nn_T nn_C nn_sh nn_MT (nn_KI1.map (fun x => x.1)) (nn_KJ1.map (fun x => x.1)) (nn_PF1.map (fun x => x.1)) nn_kd (nn_PS1.map (fun x => x.1)) (nn_PM1.map (fun x => x.1)) nxk_bolder_10 3 0 nn_dt200 6 nxd_bolder_10.2.1.length nxd_bolder_10.2.2.2.2 2 [] [37, 47, 48] [(47, [(0, 3, 0, 0), (0, 1, 0, 0), (0, 2, 0, 0)]), (48, [(0, 4, 0, 0), (0, 5, 0, 0)])] [nxe_bolder_10_0, nxe_bolder_10_1, nxe_bolder_10_2, nxe_bolder_10_3, nxe_bolder_10_4, nxe_bolder_10_5, nxe_bolder_10_6, nxe_bolder_10_7] nxn_bolder_10 21 nxm_bolder_10_3 = true := by decide +kernel
theorem nxc_bolder_10_4 : ab_cn vwCl nn_T nn_C nn_sh nn_MT (nn_KI1.map (fun x => x.1)) (nn_KJ1.map (fun x => x.1)) (nn_PF1.map (fun x => x.1)) nn_kd (nn_PS1.map (fun x => x.1)) (nn_PM1.map (fun x => x.1)) nxk_bolder_10 3 0 nn_dt200 6 nxd_bolder_10.2.1.length nxd_bolder_10.2.2.2.2 2 [] [37, 47, 48] [(47, [(0, 3, 0, 0), (0, 1, 0, 0), (0, 2, 0, 0)]), (48, [(0, 4, 0, 0), (0, 5, 0, 0)])] [nxe_bolder_10_0, nxe_bolder_10_1, nxe_bolder_10_2, nxe_bolder_10_3, nxe_bolder_10_4, nxe_bolder_10_5, nxe_bolder_10_6, nxe_bolder_10_7] nxn_bolder_10 21 nxm_bolder_10_4 = true := by decide +kernel
theorem nxc_bolder_10_5 : ab_cn vwCl nn_T nn_C nn_sh nn_MT (nn_KI1.map (fun x => x.1)) (nn_KJ1.map (fun x => x.1)) (nn_PF1.map (fun x => x.1)) nn_kd (nn_PS1.map (fun x => x.1)) (nn_PM1.map (fun x => x.1)) nxk_bolder_10 3 0 nn_dt200 6 nxd_bolder_10.2.1.length nxd_bolder_10.2.2.2.2 2 [] [37, 47, 48] [(47, [(0, 3, 0, 0), (0, 1, 0, 0), (0, 2, 0, 0)]), (48, [(0, 4, 0, 0), (0, 5, 0, 0)])] [nxe_bolder_10_0, nxe_bolder_10_1, nxe_bolder_10_2, nxe_bolder_10_3, nxe_bolder_10_4, nxe_bolder_10_5, nxe_bolder_10_6, nxe_bolder_10_7] nxn_bolder_10 21 nxm_bolder_10_5 = true := by decide +kernel
theorem nxc_bolder_10_6 : ab_cn vwCl nn_T nn_C nn_sh nn_MT (nn_KI1.map (fun x => x.1)) (nn_KJ1.map (fun x => x.1)) (nn_PF1.map (fun x => x.1)) nn_kd (nn_PS1.map (fun x => x.1)) (nn_PM1.map (fun x => x.1)) nxk_bolder_10 3 0 nn_dt200 6 nxd_bolder_10.2.1.length nxd_bolder_10.2.2.2.2 2 [] [37, 47, 48] [(47, [(0, 3, 0, 0), (0, 1, 0, 0), (0, 2, 0, 0)]), (48, [(0, 4, 0, 0), (0, 5, 0, 0)])] [nxe_bolder_10_0, nxe_bolder_10_1, nxe_bolder_10_2, nxe_bolder_10_3, nxe_bolder_10_4, nxe_bolder_10_5, nxe_bolder_10_6, nxe_bolder_10_7] nxn_bolder_10 21 nxm_bolder_10_6 = true := by decide +kernel
theorem nxc_bolder_10_7 : ab_cn vwCl nn_T nn_C nn_sh nn_MT (nn_KI1.map (fun x => x.1)) (nn_KJ1.map (fun x => x.1)) (nn_PF1.map (fun x => x.1)) nn_kd (nn_PS1.map (fun x => x.1)) (nn_PM1.map (fun x => x.1)) nxk_bolder_10 3 0 nn_dt200 6 nxd_bolder_10.2.1.length nxd_bolder_10.2.2.2.2 2 [] [37, 47, 48] [(47, [(0, 3, 0, 0), (0, 1, 0, 0), (0, 2, 0, 0)]), (48, [(0, 4, 0, 0), (0, 5, 0, 0)])] [nxe_bolder_10_0, nxe_bolder_10_1, nxe_bolder_10_2, nxe_bolder_10_3, nxe_bolder_10_4, nxe_bolder_10_5, nxe_bolder_10_6, nxe_bolder_10_7] nxn_bolder_10 21 nxm_bolder_10_7 = true := by decide +kernel
theorem nxc_bolder_10_8 : ab_cn vwCl nn_T nn_C nn_sh nn_MT (nn_KI1.map (fun x => x.1)) (nn_KJ1.map (fun x => x.1)) (nn_PF1.map (fun x => x.1)) nn_kd (nn_PS1.map (fun x => x.1)) (nn_PM1.map (fun x => x.1)) nxk_bolder_10 3 0 nn_dt200 6 nxd_bolder_10.2.1.length nxd_bolder_10.2.2.2.2 2 [] [37, 47, 48] [(47, [(0, 3, 0, 0), (0, 1, 0, 0), (0, 2, 0, 0)]), (48, [(0, 4, 0, 0), (0, 5, 0, 0)])] [nxe_bolder_10_0, nxe_bolder_10_1, nxe_bolder_10_2, nxe_bolder_10_3, nxe_bolder_10_4, nxe_bolder_10_5, nxe_bolder_10_6, nxe_bolder_10_7] nxn_bolder_10 21 nxm_bolder_10_8 = true := by decide +kernel
theorem nxc_bolder_10_9 : ab_cn vwCl nn_T nn_C nn_sh nn_MT (nn_KI1.map (fun x => x.1)) (nn_KJ1.map (fun x => x.1)) (nn_PF1.map (fun x => x.1)) nn_kd (nn_PS1.map (fun x => x.1)) (nn_PM1.map (fun x => x.1)) nxk_bolder_10 3 0 nn_dt200 6 nxd_bolder_10.2.1.length nxd_bolder_10.2.2.2.2 2 [] [37, 47, 48] [(47, [(0, 3, 0, 0), (0, 1, 0, 0), (0, 2, 0, 0)]), (48, [(0, 4, 0, 0), (0, 5, 0, 0)])] [nxe_bolder_10_0, nxe_bolder_10_1, nxe_bolder_10_2, nxe_bolder_10_3, nxe_bolder_10_4, nxe_bolder_10_5, nxe_bolder_10_6, nxe_bolder_10_7] nxn_bolder_10 21 nxm_bolder_10_9 = true := by decide +kernel
theorem nxc_bolder_10 : nxn_bolder_10.all (ab_cn vwCl nn_T nn_C nn_sh nn_MT (nn_KI1.map (fun x => x.1)) (nn_KJ1.map (fun x => x.1)) (nn_PF1.map (fun x => x.1)) nn_kd (nn_PS1.map (fun x => x.1)) (nn_PM1.map (fun x => x.1)) nxk_bolder_10 3 0 nn_dt200 6 nxd_bolder_10.2.1.length nxd_bolder_10.2.2.2.2 2 [] [37, 47, 48] [(47, [(0, 3, 0, 0), (0, 1, 0, 0), (0, 2, 0, 0)]), (48, [(0, 4, 0, 0), (0, 5, 0, 0)])] [nxe_bolder_10_0, nxe_bolder_10_1, nxe_bolder_10_2, nxe_bolder_10_3, nxe_bolder_10_4, nxe_bolder_10_5, nxe_bolder_10_6, nxe_bolder_10_7] nxn_bolder_10 21) = true := List.all_eq_true.mpr (List.forall_mem_cons.mpr ⟨nxc_bolder_10_0, List.forall_mem_cons.mpr ⟨nxc_bolder_10_1, List.forall_mem_cons.mpr ⟨nxc_bolder_10_2, List.forall_mem_cons.mpr ⟨nxc_bolder_10_3, List.forall_mem_cons.mpr ⟨nxc_bolder_10_4, List.forall_mem_cons.mpr ⟨nxc_bolder_10_5, List.forall_mem_cons.mpr ⟨nxc_bolder_10_6, List.forall_mem_cons.mpr ⟨nxc_bolder_10_7, List.forall_mem_cons.mpr ⟨nxc_bolder_10_8, List.forall_mem_cons.mpr ⟨nxc_bolder_10_9, fun _ h => absurd h List.not_mem_nil⟩⟩⟩⟩⟩⟩⟩⟩⟩⟩)
set_option maxHeartbeats 4000000 in
theorem nxt_bolder_10 (l : Launch) (htr : l.stackTraces = false) (cy : Nat → ClassId) (ad wr cr : Nat → Nat) (D : va_G) (hinj : nn_inj ad) : nx_H l cy ad wr cr D (200, 3, nxd_bolder_10, nxo_bolder_10) := by
  refine nx_holdW (mr := (⟨"NameNotes", "bolder", "(IIIII)J"⟩, prog_1_method_37_code, 6, (Option.some Jvm.ClassFile.FieldType.long), 5, true, 2)) (dt := nn_dt200) (KS := nxk_bolder_10) htr hinj rfl rfl (by decide +kernel) nn_KI1_ok nn_KJ1_ok nn_PF1_ok nn_PS1_ok nn_PM1_ok (List.forall_mem_cons.mpr ⟨lf_736 l cy ad wr cr D hinj, List.forall_mem_cons.mpr ⟨lf_737 l cy ad wr cr D hinj, List.forall_mem_cons.mpr ⟨lf_738 l cy ad wr cr D hinj, List.forall_mem_cons.mpr ⟨lf_747 l cy ad wr cr D hinj, List.forall_mem_cons.mpr ⟨lf_753 l cy ad wr cr D hinj, List.forall_mem_cons.mpr ⟨lf_762 l cy ad wr cr D hinj, List.forall_mem_cons.mpr ⟨lf_766 l cy ad wr cr D hinj, List.forall_mem_cons.mpr ⟨lf_768 l cy ad wr cr D hinj, List.forall_mem_cons.mpr ⟨lf_776 l cy ad wr cr D hinj, List.forall_mem_cons.mpr ⟨lf_780 l cy ad wr cr D hinj, List.forall_mem_cons.mpr ⟨lf_782 l cy ad wr cr D hinj, List.forall_mem_cons.mpr ⟨lf_786 l cy ad wr cr D hinj, List.forall_mem_cons.mpr ⟨lf_787 l cy ad wr cr D hinj, List.forall_mem_cons.mpr ⟨lf_840 l cy ad wr cr D hinj, List.forall_mem_cons.mpr ⟨lf_1265 l cy ad wr cr D hinj, List.forall_mem_cons.mpr ⟨lf_1266 l cy ad wr cr D hinj, List.forall_mem_cons.mpr ⟨lf_1267 l cy ad wr cr D hinj, List.forall_mem_cons.mpr ⟨lf_1268 l cy ad wr cr D hinj, List.forall_mem_cons.mpr ⟨lf_1269 l cy ad wr cr D hinj, List.forall_mem_cons.mpr ⟨lf_1270 l cy ad wr cr D hinj, List.forall_mem_cons.mpr ⟨lf_1271 l cy ad wr cr D hinj, List.forall_mem_cons.mpr ⟨lf_1272 l cy ad wr cr D hinj, List.forall_mem_cons.mpr ⟨lf_1273 l cy ad wr cr D hinj, List.forall_mem_cons.mpr ⟨lf_1274 l cy ad wr cr D hinj, fun _ h => absurd h List.not_mem_nil⟩⟩⟩⟩⟩⟩⟩⟩⟩⟩⟩⟩⟩⟩⟩⟩⟩⟩⟩⟩⟩⟩⟩⟩) ?_
  intro p e s m below meth c R Q ρ σ hE hK hsy hP hRT hTH
  refine ab_entry (lev := 3) (sp := []) (HD := [37, 47, 48]) (HN := [(47, [(0, 3, 0, 0), (0, 1, 0, 0), (0, 2, 0, 0)]), (48, [(0, 4, 0, 0), (0, 5, 0, 0)])]) (EX := [nxe_bolder_10_0, nxe_bolder_10_1, nxe_bolder_10_2, nxe_bolder_10_3, nxe_bolder_10_4, nxe_bolder_10_5, nxe_bolder_10_6, nxe_bolder_10_7]) (NS := nxn_bolder_10) (fuel := 21) (mu := ((9000000000000000000000, [], []), (0, [], []), (0, [], []))) hE (by decide +kernel) hK hsy hP List.mem_cons_self hRT ?_ (fun nd hnd => List.all_eq_true.mp nxc_bolder_10 nd hnd)
  intro nd hnd ρ2 σ2 H locs ls st hG
  rcases List.mem_cons.mp hnd with rfl | hnd
  · exact hTH 37 _ ρ2 σ2 H locs ls st 213 "no such ones" 5 (by decide +kernel) rfl (by decide +kernel) (show decode prog_1_method_37_code 37 = .ok (.new 211, 3) by decide +kernel) (show decode prog_1_method_37_code 40 = .ok (.dup, 1) by decide +kernel) (Or.inl ⟨(show decode prog_1_method_37_code 41 = .ok (.ldc 213, 2) by decide +kernel), (show decode prog_1_method_37_code 43 = .ok (.invokespecial 215, 3) by decide +kernel), (show decode prog_1_method_37_code 46 = .ok (.athrow, 1) by decide +kernel)⟩) hG
  rcases List.mem_cons.mp hnd with rfl | hnd
  · exact hTH 37 _ ρ2 σ2 H locs ls st 213 "no such ones" 5 (by decide +kernel) rfl (by decide +kernel) (show decode prog_1_method_37_code 37 = .ok (.new 211, 3) by decide +kernel) (show decode prog_1_method_37_code 40 = .ok (.dup, 1) by decide +kernel) (Or.inl ⟨(show decode prog_1_method_37_code 41 = .ok (.ldc 213, 2) by decide +kernel), (show decode prog_1_method_37_code 43 = .ok (.invokespecial 215, 3) by decide +kernel), (show decode prog_1_method_37_code 46 = .ok (.athrow, 1) by decide +kernel)⟩) hG
  rcases List.mem_cons.mp hnd with rfl | hnd
  · exact hTH 37 _ ρ2 σ2 H locs ls st 213 "no such ones" 5 (by decide +kernel) rfl (by decide +kernel) (show decode prog_1_method_37_code 37 = .ok (.new 211, 3) by decide +kernel) (show decode prog_1_method_37_code 40 = .ok (.dup, 1) by decide +kernel) (Or.inl ⟨(show decode prog_1_method_37_code 41 = .ok (.ldc 213, 2) by decide +kernel), (show decode prog_1_method_37_code 43 = .ok (.invokespecial 215, 3) by decide +kernel), (show decode prog_1_method_37_code 46 = .ok (.athrow, 1) by decide +kernel)⟩) hG
  rcases List.mem_cons.mp hnd with rfl | hnd
  · exact hTH 37 _ ρ2 σ2 H locs ls st 213 "no such ones" 5 (by decide +kernel) rfl (by decide +kernel) (show decode prog_1_method_37_code 37 = .ok (.new 211, 3) by decide +kernel) (show decode prog_1_method_37_code 40 = .ok (.dup, 1) by decide +kernel) (Or.inl ⟨(show decode prog_1_method_37_code 41 = .ok (.ldc 213, 2) by decide +kernel), (show decode prog_1_method_37_code 43 = .ok (.invokespecial 215, 3) by decide +kernel), (show decode prog_1_method_37_code 46 = .ok (.athrow, 1) by decide +kernel)⟩) hG
  rcases List.mem_cons.mp hnd with rfl | hnd
  · exact hTH 37 _ ρ2 σ2 H locs ls st 213 "no such ones" 5 (by decide +kernel) rfl (by decide +kernel) (show decode prog_1_method_37_code 37 = .ok (.new 211, 3) by decide +kernel) (show decode prog_1_method_37_code 40 = .ok (.dup, 1) by decide +kernel) (Or.inl ⟨(show decode prog_1_method_37_code 41 = .ok (.ldc 213, 2) by decide +kernel), (show decode prog_1_method_37_code 43 = .ok (.invokespecial 215, 3) by decide +kernel), (show decode prog_1_method_37_code 46 = .ok (.athrow, 1) by decide +kernel)⟩) hG
  rcases List.mem_cons.mp hnd with rfl | hnd
  · exact hTH 37 _ ρ2 σ2 H locs ls st 213 "no such ones" 5 (by decide +kernel) rfl (by decide +kernel) (show decode prog_1_method_37_code 37 = .ok (.new 211, 3) by decide +kernel) (show decode prog_1_method_37_code 40 = .ok (.dup, 1) by decide +kernel) (Or.inl ⟨(show decode prog_1_method_37_code 41 = .ok (.ldc 213, 2) by decide +kernel), (show decode prog_1_method_37_code 43 = .ok (.invokespecial 215, 3) by decide +kernel), (show decode prog_1_method_37_code 46 = .ok (.athrow, 1) by decide +kernel)⟩) hG
  rcases List.mem_cons.mp hnd with rfl | hnd
  · exact hTH 37 _ ρ2 σ2 H locs ls st 213 "no such ones" 5 (by decide +kernel) rfl (by decide +kernel) (show decode prog_1_method_37_code 37 = .ok (.new 211, 3) by decide +kernel) (show decode prog_1_method_37_code 40 = .ok (.dup, 1) by decide +kernel) (Or.inl ⟨(show decode prog_1_method_37_code 41 = .ok (.ldc 213, 2) by decide +kernel), (show decode prog_1_method_37_code 43 = .ok (.invokespecial 215, 3) by decide +kernel), (show decode prog_1_method_37_code 46 = .ok (.athrow, 1) by decide +kernel)⟩) hG
  rcases List.mem_cons.mp hnd with rfl | hnd
  · exact hTH 37 _ ρ2 σ2 H locs ls st 213 "no such ones" 5 (by decide +kernel) rfl (by decide +kernel) (show decode prog_1_method_37_code 37 = .ok (.new 211, 3) by decide +kernel) (show decode prog_1_method_37_code 40 = .ok (.dup, 1) by decide +kernel) (Or.inl ⟨(show decode prog_1_method_37_code 41 = .ok (.ldc 213, 2) by decide +kernel), (show decode prog_1_method_37_code 43 = .ok (.invokespecial 215, 3) by decide +kernel), (show decode prog_1_method_37_code 46 = .ok (.athrow, 1) by decide +kernel)⟩) hG
  exact absurd hnd List.not_mem_nil
/-- NameNotes.bolder_11 -/
def nxd_bolder_11 : ab_CN := ([(2, 0, 0), (0, 1, 0), (0, 2, 0), (0, 3, 0), (0, 4, 0), (0, 5, 0)], [(0, 0), ((-2147483648), 2147483647), ((-2147483648), 2147483647), (10, 2147483647), ((-2147483648), 2147483647), ((-2147483648), 2147483647)], [], [], [])
def nxo_bolder_11 : List ab_OU := [([], [(0, 0), ((-2147483648), (-1)), ((-2147483648), 2147483647), (10, 2147483647), ((-2147483648), 2147483647), ((-2147483648), 2147483647)], [], [], []),
    ([], [(0, 0), (3, 2147483647), ((-2147483648), 2147483647), (10, 2147483647), ((-2147483648), 2147483647), ((-2147483648), 2147483647)], [], [], []),
    ([], [(0, 0), (0, 2), ((-2147483648), (-1)), (10, 2147483647), ((-2147483648), 2147483647), ((-2147483648), 2147483647)], [], [], []),
    ([], [(0, 0), (0, 2), (3, 2147483647), (10, 2147483647), ((-2147483648), 2147483647), ((-2147483648), 2147483647)], [], [], []),
    ([], [(0, 0), (0, 2), (0, 2), (10, 2147483647), ((-2147483648), 2147483647), ((-2147483648), 2147483647)], [], [], [])]
def nxe_bolder_11_0 : ab_ND := (37, ([(0, (2, 0, 0)), (1, (0, 1, 0)), (2, (0, 2, 0)), (3, (0, 3, 0)), (4, (0, 4, 0)), (5, (0, 5, 0))], [], [(0, 0), ((-2147483648), (-1)), ((-2147483648), 2147483647), (10, 2147483647), ((-2147483648), 2147483647), ((-2147483648), 2147483647)], [], [], []), ((0, [], []), (0, [], []), (0, [], [])))
def nxe_bolder_11_1 : ab_ND := (37, ([(0, (2, 0, 0)), (1, (0, 1, 0)), (2, (0, 2, 0)), (3, (0, 3, 0)), (4, (0, 4, 0)), (5, (0, 5, 0))], [], [(0, 0), (3, 2147483647), ((-2147483648), 2147483647), (10, 2147483647), ((-2147483648), 2147483647), ((-2147483648), 2147483647)], [], [], []), ((0, [], []), (0, [], []), (0, [], [])))
def nxe_bolder_11_2 : ab_ND := (37, ([(0, (2, 0, 0)), (1, (0, 1, 0)), (2, (0, 2, 0)), (3, (0, 3, 0)), (4, (0, 4, 0)), (5, (0, 5, 0))], [], [(0, 0), (0, 2), ((-2147483648), (-1)), (10, 2147483647), ((-2147483648), 2147483647), ((-2147483648), 2147483647)], [], [], []), ((0, [], []), (0, [], []), (0, [], [])))
def nxe_bolder_11_3 : ab_ND := (37, ([(0, (2, 0, 0)), (1, (0, 1, 0)), (2, (0, 2, 0)), (3, (0, 3, 0)), (4, (0, 4, 0)), (5, (0, 5, 0))], [], [(0, 0), (0, 2), (3, 2147483647), (10, 2147483647), ((-2147483648), 2147483647), ((-2147483648), 2147483647)], [], [], []), ((0, [], []), (0, [], []), (0, [], [])))
def nxe_bolder_11_4 : ab_ND := (37, ([(0, (2, 0, 0)), (1, (0, 1, 0)), (2, (0, 2, 0)), (3, (0, 3, 0)), (4, (0, 4, 0)), (5, (0, 5, 0))], [], [(0, 0), (0, 2), (0, 2), (10, 2147483647), ((-2147483648), 2147483647), ((-2147483648), 2147483647)], [], [], []), ((0, [], []), (0, [], []), (0, [], [])))
def nxm_bolder_11_0 : ab_ND := (0, (ab_en0 0 nxd_bolder_11.1, [], nxd_bolder_11.2.1, nxd_bolder_11.2.2.1, nxd_bolder_11.2.2.2.1, []), ((0, [], []), (0, [], []), (0, [], [])))
def nxn_bolder_11 : List ab_ND := [nxm_bolder_11_0]
def nxk_bolder_11 : ab_KS := [(136, 0, le_736), (81, 0, le_737)]
theorem nxc_bolder_11_0 : ab_cn vwCl nn_T nn_C nn_sh nn_MT (nn_KI1.map (fun x => x.1)) (nn_KJ1.map (fun x => x.1)) (nn_PF1.map (fun x => x.1)) nn_kd (nn_PS1.map (fun x => x.1)) (nn_PM1.map (fun x => x.1)) nxk_bolder_11 1 0 nn_dt200 6 nxd_bolder_11.2.1.length nxd_bolder_11.2.2.2.2 2 [] [37, 47, 48] [(47, [(0, 3, 0, 0), (0, 1, 0, 0), (0, 2, 0, 0)]), (48, [(0, 4, 0, 0), (0, 5, 0, 0)])] [nxe_bolder_11_0, nxe_bolder_11_1, nxe_bolder_11_2, nxe_bolder_11_3, nxe_bolder_11_4] nxn_bolder_11 14 nxm_bolder_11_0 = true := by decide +kernel
theorem nxc_bolder_11 : nxn_bolder_11.all (ab_cn vwCl nn_T nn_C nn_sh nn_MT (nn_KI1.map (fun x => x.1)) (nn_KJ1.map (fun x => x.1)) (nn_PF1.map (fun x => x.1)) nn_kd (nn_PS1.map (fun x => x.1)) (nn_PM1.map (fun x => x.1)) nxk_bolder_11 1 0 nn_dt200 6 nxd_bolder_11.2.1.length nxd_bolder_11.2.2.2.2 2 [] [37, 47, 48] [(47, [(0, 3, 0, 0), (0, 1, 0, 0), (0, 2, 0, 0)]), (48, [(0, 4, 0, 0), (0, 5, 0, 0)])] [nxe_bolder_11_0, nxe_bolder_11_1, nxe_bolder_11_2, nxe_bolder_11_3, nxe_bolder_11_4] nxn_bolder_11 14) = true := List.all_eq_true.mpr (List.forall_mem_cons.mpr ⟨nxc_bolder_11_0, fun _ h => absurd h List.not_mem_nil⟩)
set_option maxHeartbeats 4000000 in
theorem nxt_bolder_11 (l : Launch) (htr : l.stackTraces = false) (cy : Nat → ClassId) (ad wr cr : Nat → Nat) (D : va_G) (hinj : nn_inj ad) : nx_H l cy ad wr cr D (200, 1, nxd_bolder_11, nxo_bolder_11) := by
  refine nx_holdW (mr := (⟨"NameNotes", "bolder", "(IIIII)J"⟩, prog_1_method_37_code, 6, (Option.some Jvm.ClassFile.FieldType.long), 5, true, 2)) (dt := nn_dt200) (KS := nxk_bolder_11) htr hinj rfl rfl (by decide +kernel) nn_KI1_ok nn_KJ1_ok nn_PF1_ok nn_PS1_ok nn_PM1_ok (List.forall_mem_cons.mpr ⟨lf_736 l cy ad wr cr D hinj, List.forall_mem_cons.mpr ⟨lf_737 l cy ad wr cr D hinj, fun _ h => absurd h List.not_mem_nil⟩⟩) ?_
  intro p e s m below meth c R Q ρ σ hE hK hsy hP hRT hTH
  refine ab_entry (lev := 1) (sp := []) (HD := [37, 47, 48]) (HN := [(47, [(0, 3, 0, 0), (0, 1, 0, 0), (0, 2, 0, 0)]), (48, [(0, 4, 0, 0), (0, 5, 0, 0)])]) (EX := [nxe_bolder_11_0, nxe_bolder_11_1, nxe_bolder_11_2, nxe_bolder_11_3, nxe_bolder_11_4]) (NS := nxn_bolder_11) (fuel := 14) (mu := ((0, [], []), (0, [], []), (0, [], []))) hE (by decide +kernel) hK hsy hP List.mem_cons_self hRT ?_ (fun nd hnd => List.all_eq_true.mp nxc_bolder_11 nd hnd)
  intro nd hnd ρ2 σ2 H locs ls st hG
  rcases List.mem_cons.mp hnd with rfl | hnd
  · exact hTH 37 _ ρ2 σ2 H locs ls st 213 "no such ones" 5 (by decide +kernel) rfl (by decide +kernel) (show decode prog_1_method_37_code 37 = .ok (.new 211, 3) by decide +kernel) (show decode prog_1_method_37_code 40 = .ok (.dup, 1) by decide +kernel) (Or.inl ⟨(show decode prog_1_method_37_code 41 = .ok (.ldc 213, 2) by decide +kernel), (show decode prog_1_method_37_code 43 = .ok (.invokespecial 215, 3) by decide +kernel), (show decode prog_1_method_37_code 46 = .ok (.athrow, 1) by decide +kernel)⟩) hG
  rcases List.mem_cons.mp hnd with rfl | hnd
  · exact hTH 37 _ ρ2 σ2 H locs ls st 213 "no such ones" 5 (by decide +kernel) rfl (by decide +kernel) (show decode prog_1_method_37_code 37 = .ok (.new 211, 3) by decide +kernel) (show decode prog_1_method_37_code 40 = .ok (.dup, 1) by decide +kernel) (Or.inl ⟨(show decode prog_1_method_37_code 41 = .ok (.ldc 213, 2) by decide +kernel), (show decode prog_1_method_37_code 43 = .ok (.invokespecial 215, 3) by decide +kernel), (show decode prog_1_method_37_code 46 = .ok (.athrow, 1) by decide +kernel)⟩) hG
  rcases List.mem_cons.mp hnd with rfl | hnd
  · exact hTH 37 _ ρ2 σ2 H locs ls st 213 "no such ones" 5 (by decide +kernel) rfl (by decide +kernel) (show decode prog_1_method_37_code 37 = .ok (.new 211, 3) by decide +kernel) (show decode prog_1_method_37_code 40 = .ok (.dup, 1) by decide +kernel) (Or.inl ⟨(show decode prog_1_method_37_code 41 = .ok (.ldc 213, 2) by decide +kernel), (show decode prog_1_method_37_code 43 = .ok (.invokespecial 215, 3) by decide +kernel), (show decode prog_1_method_37_code 46 = .ok (.athrow, 1) by decide +kernel)⟩) hG
  rcases List.mem_cons.mp hnd with rfl | hnd
  · exact hTH 37 _ ρ2 σ2 H locs ls st 213 "no such ones" 5 (by decide +kernel) rfl (by decide +kernel) (show decode prog_1_method_37_code 37 = .ok (.new 211, 3) by decide +kernel) (show decode prog_1_method_37_code 40 = .ok (.dup, 1) by decide +kernel) (Or.inl ⟨(show decode prog_1_method_37_code 41 = .ok (.ldc 213, 2) by decide +kernel), (show decode prog_1_method_37_code 43 = .ok (.invokespecial 215, 3) by decide +kernel), (show decode prog_1_method_37_code 46 = .ok (.athrow, 1) by decide +kernel)⟩) hG
  rcases List.mem_cons.mp hnd with rfl | hnd
  · exact hTH 37 _ ρ2 σ2 H locs ls st 213 "no such ones" 5 (by decide +kernel) rfl (by decide +kernel) (show decode prog_1_method_37_code 37 = .ok (.new 211, 3) by decide +kernel) (show decode prog_1_method_37_code 40 = .ok (.dup, 1) by decide +kernel) (Or.inl ⟨(show decode prog_1_method_37_code 41 = .ok (.ldc 213, 2) by decide +kernel), (show decode prog_1_method_37_code 43 = .ok (.invokespecial 215, 3) by decide +kernel), (show decode prog_1_method_37_code 46 = .ok (.athrow, 1) by decide +kernel)⟩) hG
  exact absurd hnd List.not_mem_nil
/-- NameNotes.told -/
def nxd_told : ab_CN := ([(2, 0, 0), (0, 1, 0)], [(0, 0), ((-2147483648), 2147483647), ((-2147483648), 2147483647), ((-2147483648), 2147483647), ((-2147483648), 2147483647)], [], [((3, 15), (2, 0)), ((69, 5), (3, 0)), ((69, 6), (4, 0))], [([(1, 5, 0)], [(0, 0), (0, 1), ((-2147483648), 2147483647), ((-2147483648), 2147483647), ((-2147483648), 2147483647), ((-9223372036854775808), 9223372036854775807), (0, 511)], [(2, 4, 0), (4, 2, 0)], [((73, 3), (6, 0))], [(73, 3), (74, 1000000), (75, 1000000)])])
def nxo_told : List ab_OU := [([], [(0, 0), ((-2147483648), 2147483647), ((-2147483648), 2147483647), ((-2147483648), 2147483647), ((-2147483648), 2147483647)], [], [], [])]
def nxe_told_0 : ab_ND := (34, ([(0, (2, 0, 0)), (1, (0, 1, 0))], [], [(0, 0), ((-2147483648), 2147483647), ((-2147483648), 2147483647), ((-2147483648), 2147483647), ((-2147483648), 2147483647)], [], [((3, 15), (2, 0)), ((69, 5), (3, 0)), ((69, 6), (4, 0))], []), ((0, [], []), (0, [], []), (0, [], [])))
def nxn_told : List ab_ND := [((0, (ab_en0 0 nxd_told.1, [], nxd_told.2.1, nxd_told.2.2.1, nxd_told.2.2.2.1, []), ((0, [], []), (0, [], []), (0, [], []))) : ab_ND)]
def nxk_told : ab_KS := [(64, 1, cd_26), (202, 0, cd_103), (203, 0, cd_104), (204, 0, cd_105), (55, 0, cd_157), (82, 4, cd_175), (193, 0, cd_344)]
theorem nxc_told : nxn_told.all (ab_cn vwCl nn_T nn_C nn_sh nn_MT (nn_KI1.map (fun x => x.1)) (nn_KJ1.map (fun x => x.1)) (nn_PF1.map (fun x => x.1)) nn_kd (nn_PS1.map (fun x => x.1)) (nn_PM1.map (fun x => x.1)) nxk_told 5 0 nn_dt201 4 nxd_told.2.1.length nxd_told.2.2.2.2 2 [] [34] [] [nxe_told_0] nxn_told 38) = true := by decide +kernel
set_option maxHeartbeats 4000000 in
theorem nxt_told (l : Launch) (htr : l.stackTraces = false) (cy : Nat → ClassId) (ad wr cr : Nat → Nat) (D : va_G) (hinj : nn_inj ad) : nx_H l cy ad wr cr D (201, 5, nxd_told, nxo_told) := by
  refine nx_holdW (mr := (⟨"NameNotes", "told", "(I)J"⟩, prog_1_method_49_code, 4, (Option.some Jvm.ClassFile.FieldType.long), 1, true, 2)) (dt := nn_dt201) (KS := nxk_told) htr hinj rfl rfl (by decide +kernel) nn_KI1_ok nn_KJ1_ok nn_PF1_ok nn_PS1_ok nn_PM1_ok (List.forall_mem_cons.mpr ⟨ct_26 l cy ad wr cr D hinj, List.forall_mem_cons.mpr ⟨ct_103 l cy ad wr cr D hinj, List.forall_mem_cons.mpr ⟨ct_104 l cy ad wr cr D hinj, List.forall_mem_cons.mpr ⟨ct_105 l cy ad wr cr D hinj, List.forall_mem_cons.mpr ⟨ct_157 l cy ad wr cr D hinj, List.forall_mem_cons.mpr ⟨ct_175 l cy ad wr cr D hinj, List.forall_mem_cons.mpr ⟨ct_344 l cy ad wr cr D hinj, fun _ h => absurd h List.not_mem_nil⟩⟩⟩⟩⟩⟩⟩) ?_
  intro p e s m below meth c R Q ρ σ hE hK hsy hP hRT hTH
  refine ab_entry (lev := 5) (sp := []) (HD := [34]) (HN := []) (EX := [nxe_told_0]) (NS := nxn_told) (fuel := 38) (mu := ((0, [], []), (0, [], []), (0, [], []))) hE (by decide +kernel) hK hsy hP List.mem_cons_self hRT ?_ (fun nd hnd => List.all_eq_true.mp nxc_told nd hnd)
  intro nd hnd ρ2 σ2 H locs ls st hG
  rcases List.mem_cons.mp hnd with rfl | hnd
  · exact hTH 34 _ ρ2 σ2 H locs ls st 394 "nobody must name it" 7 (by decide +kernel) rfl (by decide +kernel) (show decode prog_1_method_49_code 34 = .ok (.new 211, 3) by decide +kernel) (show decode prog_1_method_49_code 37 = .ok (.dup, 1) by decide +kernel) (Or.inr ⟨(show decode prog_1_method_49_code 38 = .ok (.ldc_w 394, 3) by decide +kernel), (show decode prog_1_method_49_code 41 = .ok (.invokespecial 215, 3) by decide +kernel), (show decode prog_1_method_49_code 44 = .ok (.athrow, 1) by decide +kernel)⟩) hG
  exact absurd hnd List.not_mem_nil
