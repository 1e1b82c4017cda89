/-! contracts that the law calls under a tag -/
/-- NameNotes.end 0 -/
def ld_735 : ab_CN := ([(2, 0, 0), (0, 1, 0)], [(0, 0), ((-2147483648), 2147483647), ((-2147483648), 2147483647)], [], [((1, 1), (2, 0))], [([(0, 0, 0)], [(0, 0), (0, 2147483647), ((-2147483648), 2147483646)], [(2, 1, (-1))], [], []),
    ([(0, 0, 1)], [(0, 0), (0, 2147483647), (0, 2147483647)], [(1, 2, 0)], [((1, 1), (1, 0))], [(1, 1)]),
    ([(0, 0, 0)], [(0, 0), ((-2147483648), (-1)), ((-2147483648), 2147483647)], [], [], [])])
theorem lt_735 (l : Launch) (cy : Nat → ClassId) (ad wr cr : Nat → Nat) (D : va_G) (hinj : nn_inj ad) : nn_H l cy ad wr cr D (3, 0, ld_735) := nn_hold (fuel := 17) (sp := []) (HD := []) (HN := []) (mu := ((0, [], []), (0, [], []), (0, [], []))) (KS := []) (NS := []) hinj nn_MT_code nn_KI1_ok nn_KJ1_ok nn_PF1_ok nn_PS1_ok nn_PM1_ok (fun _ h => absurd h List.not_mem_nil) (by decide +kernel)
/-- NameNotesModel.end 93 -/
def ld_736 : ab_CN := ([(2, 93, 0), (0, 1, 0)], [(0, 0), ((-2147483648), 2147483647), (0, 940)], [], [((93, 2), (2, 0))], [([(0, 0, 0)], [(0, 0), (1, 2147483647), (0, 940)], [(2, 1, (-1))], [((93, 0), (0, 0))], [(93, 0)]),
    ([(0, 0, 1)], [(0, 0), (0, 940), (0, 940)], [(1, 2, 0)], [((93, 2), (1, 0)), ((93, 0), (0, 0))], [(93, 0), (93, 2)]),
    ([(0, 0, 0)], [(0, 0), ((-2147483648), (-1)), (0, 940)], [], [((93, 0), (0, 0))], [(93, 0)])])
theorem lt_736 (l : Launch) (cy : Nat → ClassId) (ad wr cr : Nat → Nat) (D : va_G) (hinj : nn_inj ad) : nn_H l cy ad wr cr D (207, 0, ld_736) := nn_hold (fuel := 18) (sp := []) (HD := []) (HN := []) (mu := ((0, [], []), (0, [], []), (0, [], []))) (KS := []) (NS := []) hinj nn_MT_code nn_KI20_ok nn_KJ20_ok nn_PF20_ok nn_PS20_ok nn_PM20_ok (fun _ h => absurd h List.not_mem_nil) (by decide +kernel)
/-- NameNotes_Tape.hasRoom 1 -/
def ld_737 : ab_CN := ([(2, 1, 0)], [(0, 0), (0, 940)], [], [((1, 1), (1, 0))], [([(0, 0, 1)], [(0, 0), (0, 920)], [], [], []),
    ([(0, 0, 0)], [(0, 0), (921, 940)], [], [], [])])
theorem lt_737 (l : Launch) (cy : Nat → ClassId) (ad wr cr : Nat → Nat) (D : va_G) (hinj : nn_inj ad) : nn_H l cy ad wr cr D (1, 0, ld_737) := nn_hold (fuel := 13) (sp := []) (HD := []) (HN := []) (mu := ((0, [], []), (0, [], []), (0, [], []))) (KS := []) (NS := []) hinj nn_MT_code nn_KI2_ok nn_KJ2_ok nn_PF2_ok nn_PS2_ok nn_PM2_ok (fun _ h => absurd h List.not_mem_nil) (by decide +kernel)
/-- NameNotes_Tape.append 1 -/
def ld_738 : ab_CN := ([(2, 1, 0), (0, 1, 0)], [(0, 0), ((-2147483648), 2147483647), (0, 936)], [], [((1, 1), (2, 0))], [([], [(0, 0), ((-2147483648), 2147483647), (0, 936)], [], [((1, 1), (2, 4))], [(1, 1), (2, 1000000)])])
theorem lt_738 (l : Launch) (cy : Nat → ClassId) (ad wr cr : Nat → Nat) (D : va_G) (hinj : nn_inj ad) : nn_H l cy ad wr cr D (2, 0, ld_738) := nn_hold (fuel := 121) (sp := []) (HD := []) (HN := []) (mu := ((0, [], []), (0, [], []), (0, [], []))) (KS := []) (NS := []) hinj nn_MT_code nn_KI2_ok nn_KJ2_ok nn_PF2_ok nn_PS2_ok nn_PM2_ok (fun _ h => absurd h List.not_mem_nil) (by decide +kernel)
/-- NameNotes.feed 0 -/
def ld_739 : ab_CN := ([(2, 0, 0), (0, 1, 0), (0, 2, 0), (0, 3, 0), (0, 4, 0), (0, 5, 0)], [(0, 0), ((-2147483648), 2147483647), ((-2147483648), 2147483647), ((-2147483648), 2147483647), ((-2147483648), 2147483647), ((-2147483648), 2147483647), (0, 940)], [], [((1, 1), (6, 0))], [([(0, 0, (-1))], [(0, 0), ((-2147483648), 2147483647), ((-2147483648), 2147483647), ((-2147483648), 2147483647), ((-2147483648), 2147483647), ((-2147483648), 2147483647), (921, 940)], [], [], []),
    ([(0, 6, 20)], [(0, 0), ((-2147483648), 2147483647), ((-2147483648), 2147483647), ((-2147483648), 2147483647), ((-2147483648), 2147483647), ((-2147483648), 2147483647), (0, 920)], [], [((1, 1), (6, 20))], [(1, 1), (2, 1000000)])])
theorem lt_739 (l : Launch) (cy : Nat → ClassId) (ad wr cr : Nat → Nat) (D : va_G) (hinj : nn_inj ad) : nn_H l cy ad wr cr D (0, 1, ld_739) := nn_hold (fuel := 32) (sp := []) (HD := []) (HN := []) (mu := ((0, [], []), (0, [], []), (0, [], []))) (KS := [(1, 0, ld_737), (2, 0, ld_738)]) (NS := []) hinj nn_MT_code nn_KI1_ok nn_KJ1_ok nn_PF1_ok nn_PS1_ok nn_PM1_ok (List.forall_mem_cons.mpr ⟨lt_737 l cy ad wr cr D hinj, List.forall_mem_cons.mpr ⟨lt_738 l cy ad wr cr D hinj, fun _ h => absurd h List.not_mem_nil⟩⟩) (by decide +kernel)
