/-- NameNotes_Tape.hasRoom 1 -/
def cd_0 : ab_CN := ([(2, 1, 0)], [(0, 0), ((-2147483648), 2147483647)], [], [((1, 1), (1, 0))], [([(0, 0, 1)], [(0, 0), ((-2147483648), 2147483647)], [], [], []),
    ([(0, 0, 0)], [(0, 0), ((-2147483648), 2147483647)], [], [], [])])
theorem ct_0 (l : Launch) (cy : Nat → ClassId) (ad wr cr : Nat → Nat) (D : va_G) (hinj : nn_inj ad) : nn_H l cy ad wr cr D (1, 0, cd_0) := nn_hold (fuel := 13) (sp := []) (HN := []) (mu := nn_mu) (KS := []) (NS := []) hinj nn_MT_code nn_KI2_ok nn_KJ2_ok nn_PF2_ok nn_PS2_ok nn_PM2_ok (fun _ h => absurd h List.not_mem_nil) (by decide +kernel)
/-- NameNotes_Tape.append 1 -/
def cd_1 : ab_CN := ([(2, 1, 0), (0, 1, 0)], [(0, 0), ((-2147483648), 2147483647), ((-2147483648), 2147483647)], [], [((1, 1), (2, 0))], [([], [(0, 0), ((-2147483648), 2147483647), ((-2147483648), 2147483647), ((-2147483648), 2147483647)], [(2, 3, 0)], [((1, 1), (3, 0))], [(1, 1), (2, 1000000)])])
theorem ct_1 (l : Launch) (cy : Nat → ClassId) (ad wr cr : Nat → Nat) (D : va_G) (hinj : nn_inj ad) : nn_H l cy ad wr cr D (2, 0, cd_1) := nn_hold (fuel := 33) (sp := []) (HN := []) (mu := nn_mu) (KS := []) (NS := [(3, ([(2, (0, 3, 0)), (0, (2, 1, 0)), (1, (0, 1, 0))], [], [(0, 0), ((-2147483648), 2147483647), ((-2147483648), 2147483647), ((-2147483648), 24), ((-2147483648), 2147483647)], [(2, 4, 0)], [((1, 1), (4, 0))], [(1, 1), (2, 1000000)]), ((2147483648, [3], []), (0, [], []), (0, [], [])))]) hinj nn_MT_code nn_KI2_ok nn_KJ2_ok nn_PF2_ok nn_PS2_ok nn_PM2_ok (fun _ h => absurd h List.not_mem_nil) (by decide +kernel)
/-- NameNotes_Tape.look 1 -/
def cd_2 : ab_CN := ([(2, 1, 0), (0, 1, 0)], [(0, 0), ((-2147483648), 2147483647), ((-2147483648), 2147483647)], [], [((1, 1), (2, 0))], [([(0, 3, 0)], [(0, 0), (0, 939), (1, 2147483647), (0, 255)], [(1, 2, (-1))], [], []),
    ([(0, 0, 0)], [(0, 0), ((-2147483648), 2147483647), ((-2147483648), 2147483647)], [], [], [])])
theorem ct_2 (l : Launch) (cy : Nat → ClassId) (ad wr cr : Nat → Nat) (D : va_G) (hinj : nn_inj ad) : nn_H l cy ad wr cr D (11, 0, cd_2) := nn_hold (fuel := 23) (sp := []) (HN := []) (mu := nn_mu) (KS := []) (NS := []) hinj nn_MT_code nn_KI2_ok nn_KJ2_ok nn_PF2_ok nn_PS2_ok nn_PM2_ok (fun _ h => absurd h List.not_mem_nil) (by decide +kernel)
/-- NameNotes_Tape.isBlank  -/
def cd_3 : ab_CN := ([(0, 1, 0)], [(0, 0), ((-2147483648), 2147483647)], [], [], [([(0, 0, 1)], [(0, 0), (10, 32)], [], [], []),
    ([(0, 0, 0)], [(0, 0), ((-2147483648), 2147483647)], [], [], [])])
theorem ct_3 (l : Launch) (cy : Nat → ClassId) (ad wr cr : Nat → Nat) (D : va_G) (hinj : nn_inj ad) : nn_H l cy ad wr cr D (12, 0, cd_3) := nn_hold (fuel := 13) (sp := []) (HN := []) (mu := nn_mu) (KS := []) (NS := []) hinj nn_MT_code nn_KI2_ok nn_KJ2_ok nn_PF2_ok nn_PS2_ok nn_PM2_ok (fun _ h => absurd h List.not_mem_nil) (by decide +kernel)
/-- NameNotes_Tape.isLetter  -/
def cd_4 : ab_CN := ([(0, 1, 0)], [(0, 0), ((-2147483648), 2147483647)], [], [], [([(0, 0, 1)], [(0, 0), (97, 122)], [], [], []),
    ([(0, 0, 0)], [(0, 0), ((-2147483648), 2147483647)], [], [], [])])
theorem ct_4 (l : Launch) (cy : Nat → ClassId) (ad wr cr : Nat → Nat) (D : va_G) (hinj : nn_inj ad) : nn_H l cy ad wr cr D (13, 0, cd_4) := nn_hold (fuel := 13) (sp := []) (HN := []) (mu := nn_mu) (KS := []) (NS := []) hinj nn_MT_code nn_KI2_ok nn_KJ2_ok nn_PF2_ok nn_PS2_ok nn_PM2_ok (fun _ h => absurd h List.not_mem_nil) (by decide +kernel)
/-- NameNotes_Tape.isDigit  -/
def cd_5 : ab_CN := ([(0, 1, 0)], [(0, 0), ((-2147483648), 2147483647)], [], [], [([(0, 0, 1)], [(0, 0), (48, 57)], [], [], []),
    ([(0, 0, 0)], [(0, 0), ((-2147483648), 2147483647)], [], [], [])])
theorem ct_5 (l : Launch) (cy : Nat → ClassId) (ad wr cr : Nat → Nat) (D : va_G) (hinj : nn_inj ad) : nn_H l cy ad wr cr D (14, 0, cd_5) := nn_hold (fuel := 13) (sp := []) (HN := []) (mu := nn_mu) (KS := []) (NS := []) hinj nn_MT_code nn_KI2_ok nn_KJ2_ok nn_PF2_ok nn_PS2_ok nn_PM2_ok (fun _ h => absurd h List.not_mem_nil) (by decide +kernel)
/-- NameNotes_Tape.isSign  -/
def cd_6 : ab_CN := ([(0, 1, 0)], [(0, 0), ((-2147483648), 2147483647)], [], [], [([(0, 0, 0)], [(0, 0), ((-2147483648), 2147483647)], [], [], []),
    ([(0, 0, 1)], [(0, 0), (40, 62)], [], [], [])])
theorem ct_6 (l : Launch) (cy : Nat → ClassId) (ad wr cr : Nat → Nat) (D : va_G) (hinj : nn_inj ad) : nn_H l cy ad wr cr D (18, 0, cd_6) := nn_hold (fuel := 24) (sp := []) (HN := []) (mu := nn_mu) (KS := []) (NS := []) hinj nn_MT_code nn_KI2_ok nn_KJ2_ok nn_PF2_ok nn_PS2_ok nn_PM2_ok (fun _ h => absurd h List.not_mem_nil) (by decide +kernel)
/-- NameNotes_Tape.findKeyword 1 -/
def cd_7 : ab_CN := ([(2, 1, 0)], [(0, 0), ((-9223372036854775808), 9223372036854775807)], [], [((1, 6), (1, 0))], [([], [(0, 0), ((-9223372036854775808), 9223372036854775807)], [], [], [(1, 7)])])
theorem ct_7 (l : Launch) (cy : Nat → ClassId) (ad wr cr : Nat → Nat) (D : va_G) (hinj : nn_inj ad) : nn_H l cy ad wr cr D (17, 0, cd_7) := nn_hold (fuel := 23) (sp := []) (HN := []) (mu := nn_mu) (KS := []) (NS := [(2, ([(1, (0, 2, 0)), (0, (2, 1, 0))], [], [(0, 0), ((-9223372036854775808), 9223372036854775807), (0, 18)], [], [((1, 6), (1, 0))], [(1, 7)]), ((18, [], [2]), (0, [], []), (0, [], [])))]) hinj nn_MT_code nn_KI2_ok nn_KJ2_ok nn_PF2_ok nn_PS2_ok nn_PM2_ok (fun _ h => absurd h List.not_mem_nil) (by decide +kernel)
/-- NameNotes_Tape.withLetter  -/
def cd_8 : ab_CN := ([(1, 1, 0), (0, 2, 0)], [(0, 0), ((-9223372036854775808), 9223372036854775807), ((-2147483648), 2147483647)], [], [], [([(1, 3, 0)], [(0, 0), ((-9223372036854775808), 9223372036854775807), ((-2147483648), 2147483647), ((-9223372036854775808), 9223372036854775807)], [], [], [])])
theorem ct_8 (l : Launch) (cy : Nat → ClassId) (ad wr cr : Nat → Nat) (D : va_G) (hinj : nn_inj ad) : nn_H l cy ad wr cr D (16, 0, cd_8) := nn_hold (fuel := 15) (sp := []) (HN := []) (mu := nn_mu) (KS := []) (NS := []) hinj nn_MT_code nn_KI2_ok nn_KJ2_ok nn_PF2_ok nn_PS2_ok nn_PM2_ok (fun _ h => absurd h List.not_mem_nil) (by decide +kernel)
/-- NameNotes_Tape.findKeyword 1 -/
def cd_9 : ab_CN := ([(2, 1, 0)], [(0, 0), ((-9223372036854775808), 9223372036854775807)], [], [((1, 6), (1, 0))], [([], [(0, 0), ((-9223372036854775808), 9223372036854775807)], [], [], [(1, 7)])])
theorem ct_9 (l : Launch) (cy : Nat → ClassId) (ad wr cr : Nat → Nat) (D : va_G) (hinj : nn_inj ad) : nn_H l cy ad wr cr D (17, 0, cd_9) := nn_hold (fuel := 23) (sp := []) (HN := []) (mu := nn_mu) (KS := []) (NS := [(2, ([(1, (0, 2, 0)), (0, (2, 1, 0))], [], [(0, 0), ((-9223372036854775808), 9223372036854775807), (0, 18)], [], [((1, 6), (1, 0))], [(1, 7)]), ((18, [], [2]), (0, [], []), (0, [], [])))]) hinj nn_MT_code nn_KI2_ok nn_KJ2_ok nn_PF2_ok nn_PS2_ok nn_PM2_ok (fun _ h => absurd h List.not_mem_nil) (by decide +kernel)
/-- NameNotes_Tape.look 1 -/
def cd_10 : ab_CN := ([(2, 1, 0), (0, 1, 0)], [(0, 0), ((-2147483648), 2147483647), ((-2147483648), 2147483647)], [], [((1, 1), (2, 0))], [([(0, 3, 0)], [(0, 0), (0, 939), (1, 2147483647), (0, 255)], [(1, 2, (-1))], [], []),
    ([(0, 0, 0)], [(0, 0), ((-2147483648), 2147483647), ((-2147483648), 2147483647)], [], [], [])])
theorem ct_10 (l : Launch) (cy : Nat → ClassId) (ad wr cr : Nat → Nat) (D : va_G) (hinj : nn_inj ad) : nn_H l cy ad wr cr D (11, 0, cd_10) := nn_hold (fuel := 23) (sp := []) (HN := []) (mu := nn_mu) (KS := []) (NS := []) hinj nn_MT_code nn_KI2_ok nn_KJ2_ok nn_PF2_ok nn_PS2_ok nn_PM2_ok (fun _ h => absurd h List.not_mem_nil) (by decide +kernel)
/-- NameNotes_Tape.isName 1 -/
def cd_11 : ab_CN := ([(2, 1, 0)], [(0, 0), ((-2147483648), 2147483647), ((-1), 16)], [], [((1, 5), (1, 0)), ((1, 7), (2, 0))], [([(0, 0, 1)], [(0, 0), (2, 2), ((-1), 16)], [], [], []),
    ([(0, 0, 0)], [(0, 0), ((-2147483648), 2147483647), ((-1), 16)], [], [], [])])
theorem ct_11 (l : Launch) (cy : Nat → ClassId) (ad wr cr : Nat → Nat) (D : va_G) (hinj : nn_inj ad) : nn_H l cy ad wr cr D (24, 0, cd_11) := nn_hold (fuel := 14) (sp := []) (HN := []) (mu := nn_mu) (KS := []) (NS := []) hinj nn_MT_code nn_KI2_ok nn_KJ2_ok nn_PF2_ok nn_PS2_ok nn_PM2_ok (fun _ h => absurd h List.not_mem_nil) (by decide +kernel)
/-- NameNotes_Tape.refuse 1 -/
def cd_12 : ab_CN := ([(2, 1, 0), (0, 1, 0)], [(0, 0), ((-2147483648), 2147483647), ((-2147483648), 2147483647)], [], [((1, 4), (2, 0))], [([(0, 0, 0)], [(0, 0), ((-2147483648), 2147483647), ((-2147483648), 2147483647)], [], [((1, 9), (1, 0)), ((1, 10), (2, 0))], [(1, 9), (1, 10)])])
theorem ct_12 (l : Launch) (cy : Nat → ClassId) (ad wr cr : Nat → Nat) (D : va_G) (hinj : nn_inj ad) : nn_H l cy ad wr cr D (22, 0, cd_12) := nn_hold (fuel := 13) (sp := []) (HN := []) (mu := nn_mu) (KS := []) (NS := []) hinj nn_MT_code nn_KI2_ok nn_KJ2_ok nn_PF2_ok nn_PS2_ok nn_PM2_ok (fun _ h => absurd h List.not_mem_nil) (by decide +kernel)
/-- NameNotes_Tape.needNumber 1 -/
def cd_13 : ab_CN := ([(2, 1, 0), (0, 1, 0), (0, 2, 0)], [(0, 0), ((-2147483648), 2147483647), ((-2147483648), 2147483647), ((-2147483648), 2147483647), ((-2147483648), 2147483647)], [], [((1, 5), (3, 0)), ((1, 8), (4, 0))], [([(0, 0, 0)], [(0, 0), ((-2147483648), 2147483647), ((-2147483648), 2147483647), ((-2147483648), 2147483647), ((-2147483648), 2147483647), ((-2147483648), 2147483647), (1, 2)], [(6, 3, 2147483649)], [((1, 9), (6, 0)), ((1, 10), (5, 0))], [(1, 9), (1, 10)]),
    ([(0, 0, 1)], [(0, 0), ((-2147483648), 2147483647), ((-2147483648), 2147483647), (3, 3), ((-2147483648), 2147483647)], [(4, 2, 0), (1, 4, 0)], [], [])])
theorem ct_13 (l : Launch) (cy : Nat → ClassId) (ad wr cr : Nat → Nat) (D : va_G) (hinj : nn_inj ad) : nn_H l cy ad wr cr D (30, 1, cd_13) := nn_hold (fuel := 22) (sp := []) (HN := []) (mu := nn_mu) (KS := [(22, 0, cd_12)]) (NS := []) hinj nn_MT_code nn_KI2_ok nn_KJ2_ok nn_PF2_ok nn_PS2_ok nn_PM2_ok (List.forall_mem_cons.mpr ⟨ct_12 l cy ad wr cr D hinj, fun _ h => absurd h List.not_mem_nil⟩) (by decide +kernel)
/-- NameNotes_Tape.refuse 1 -/
def cd_14 : ab_CN := ([(2, 1, 0), (0, 1, 0)], [(0, 0), ((-2147483648), 2147483647), ((-2147483648), 2147483647)], [], [((1, 4), (2, 0))], [([(0, 0, 0)], [(0, 0), ((-2147483648), 2147483647), ((-2147483648), 2147483647)], [], [((1, 9), (1, 0)), ((1, 10), (2, 0))], [(1, 9), (1, 10)])])
theorem ct_14 (l : Launch) (cy : Nat → ClassId) (ad wr cr : Nat → Nat) (D : va_G) (hinj : nn_inj ad) : nn_H l cy ad wr cr D (22, 0, cd_14) := nn_hold (fuel := 13) (sp := []) (HN := []) (mu := nn_mu) (KS := []) (NS := []) hinj nn_MT_code nn_KI2_ok nn_KJ2_ok nn_PF2_ok nn_PS2_ok nn_PM2_ok (fun _ h => absurd h List.not_mem_nil) (by decide +kernel)
/-- NameNotes_Tape.withLetter  -/
def cd_15 : ab_CN := ([(1, 1, 0), (0, 2, 0)], [(0, 0), ((-9223372036854775808), 9223372036854775807), ((-2147483648), 2147483647)], [], [], [([(1, 3, 0)], [(0, 0), ((-9223372036854775808), 9223372036854775807), ((-2147483648), 2147483647), ((-9223372036854775808), 9223372036854775807)], [], [], [])])
theorem ct_15 (l : Launch) (cy : Nat → ClassId) (ad wr cr : Nat → Nat) (D : va_G) (hinj : nn_inj ad) : nn_H l cy ad wr cr D (16, 0, cd_15) := nn_hold (fuel := 15) (sp := []) (HN := []) (mu := nn_mu) (KS := []) (NS := []) hinj nn_MT_code nn_KI2_ok nn_KJ2_ok nn_PF2_ok nn_PS2_ok nn_PM2_ok (fun _ h => absurd h List.not_mem_nil) (by decide +kernel)
/-- NameNotes_Tape.isBlank  -/
def cd_16 : ab_CN := ([(0, 1, 0)], [(0, 0), ((-2147483648), 2147483647)], [], [], [([(0, 0, 1)], [(0, 0), (10, 32)], [], [], []),
    ([(0, 0, 0)], [(0, 0), ((-2147483648), 2147483647)], [], [], [])])
theorem ct_16 (l : Launch) (cy : Nat → ClassId) (ad wr cr : Nat → Nat) (D : va_G) (hinj : nn_inj ad) : nn_H l cy ad wr cr D (12, 0, cd_16) := nn_hold (fuel := 13) (sp := []) (HN := []) (mu := nn_mu) (KS := []) (NS := []) hinj nn_MT_code nn_KI2_ok nn_KJ2_ok nn_PF2_ok nn_PS2_ok nn_PM2_ok (fun _ h => absurd h List.not_mem_nil) (by decide +kernel)
/-- NameNotes_Tape.isLetter  -/
def cd_17 : ab_CN := ([(0, 1, 0)], [(0, 0), ((-2147483648), 2147483647)], [], [], [([(0, 0, 1)], [(0, 0), (97, 122)], [], [], []),
    ([(0, 0, 0)], [(0, 0), ((-2147483648), 2147483647)], [], [], [])])
theorem ct_17 (l : Launch) (cy : Nat → ClassId) (ad wr cr : Nat → Nat) (D : va_G) (hinj : nn_inj ad) : nn_H l cy ad wr cr D (13, 0, cd_17) := nn_hold (fuel := 13) (sp := []) (HN := []) (mu := nn_mu) (KS := []) (NS := []) hinj nn_MT_code nn_KI2_ok nn_KJ2_ok nn_PF2_ok nn_PS2_ok nn_PM2_ok (fun _ h => absurd h List.not_mem_nil) (by decide +kernel)
/-- NameNotes_Tape.isDigit  -/
def cd_18 : ab_CN := ([(0, 1, 0)], [(0, 0), ((-2147483648), 2147483647)], [], [], [([(0, 0, 1)], [(0, 0), (48, 57)], [], [], []),
    ([(0, 0, 0)], [(0, 0), ((-2147483648), 2147483647)], [], [], [])])
theorem ct_18 (l : Launch) (cy : Nat → ClassId) (ad wr cr : Nat → Nat) (D : va_G) (hinj : nn_inj ad) : nn_H l cy ad wr cr D (14, 0, cd_18) := nn_hold (fuel := 13) (sp := []) (HN := []) (mu := nn_mu) (KS := []) (NS := []) hinj nn_MT_code nn_KI2_ok nn_KJ2_ok nn_PF2_ok nn_PS2_ok nn_PM2_ok (fun _ h => absurd h List.not_mem_nil) (by decide +kernel)
/-- NameNotes_Tape.isSign  -/
def cd_19 : ab_CN := ([(0, 1, 0)], [(0, 0), ((-2147483648), 2147483647)], [], [], [([(0, 0, 0)], [(0, 0), ((-2147483648), 2147483647)], [], [], []),
    ([(0, 0, 1)], [(0, 0), (40, 62)], [], [], [])])
theorem ct_19 (l : Launch) (cy : Nat → ClassId) (ad wr cr : Nat → Nat) (D : va_G) (hinj : nn_inj ad) : nn_H l cy ad wr cr D (18, 0, cd_19) := nn_hold (fuel := 24) (sp := []) (HN := []) (mu := nn_mu) (KS := []) (NS := []) hinj nn_MT_code nn_KI2_ok nn_KJ2_ok nn_PF2_ok nn_PS2_ok nn_PM2_ok (fun _ h => absurd h List.not_mem_nil) (by decide +kernel)
