section
/-- NameNotes.copyRow 8 23 -/
def cd_300 : ab_CN := ([((nat_lit 2), (nat_lit 8), (.ofNat (nat_lit 0))), ((nat_lit 2), (nat_lit 23), (.ofNat (nat_lit 0)))], [((.ofNat (nat_lit 0)), (.ofNat (nat_lit 0)))], [], [], [([], [((.ofNat (nat_lit 0)), (.ofNat (nat_lit 0)))], [], [], [((nat_lit 23), (nat_lit 1000000))])])
theorem ct_300 (l : Launch) (cy : Nat → ClassId) (ad wr cr : Nat → Nat) (D : va_G) (hinj : nn_inj ad) : nn_H l cy ad wr cr D (50, 0, cd_300) := nn_hold (fuel := (nat_lit 21)) (sp := []) (HD := [(nat_lit 2)]) (HN := []) (mu := (((.ofNat (nat_lit 1000000000000000000000)), [], []), ((.ofNat (nat_lit 0)), [], []), (.ofNat (nat_lit 0)), [], [])) (KS := []) (NS := [((nat_lit 2), ([((nat_lit 2), (nat_lit 0), (nat_lit 1), (.ofNat (nat_lit 0))), ((nat_lit 0), (nat_lit 2), (nat_lit 8), (.ofNat (nat_lit 0))), ((nat_lit 1), (nat_lit 2), (nat_lit 23), (.ofNat (nat_lit 0)))], [], [((.ofNat (nat_lit 0)), (.ofNat (nat_lit 0))), ((.ofNat (nat_lit 0)), (.ofNat (nat_lit 8)))], [], [], [((nat_lit 23), (nat_lit 0)), ((nat_lit 23), (nat_lit 1000000))]), ((.ofNat (nat_lit 8)), [], [(nat_lit 1)]), ((.ofNat (nat_lit 0)), [], []), (.ofNat (nat_lit 0)), [], [])]) hinj nn_MT_code nn_KI1_ok nn_KJ1_ok nn_PF1_ok nn_PS1_ok nn_PM1_ok (fun _ h => absurd h List.not_mem_nil) (by decide +kernel)
/-- NameNotes.copyRow 9 24 -/
def cd_301 : ab_CN := ([((nat_lit 2), (nat_lit 9), (.ofNat (nat_lit 0))), ((nat_lit 2), (nat_lit 24), (.ofNat (nat_lit 0)))], [((.ofNat (nat_lit 0)), (.ofNat (nat_lit 0)))], [], [], [([], [((.ofNat (nat_lit 0)), (.ofNat (nat_lit 0)))], [], [], [((nat_lit 24), (nat_lit 1000000))])])
theorem ct_301 (l : Launch) (cy : Nat → ClassId) (ad wr cr : Nat → Nat) (D : va_G) (hinj : nn_inj ad) : nn_H l cy ad wr cr D (50, 0, cd_301) := nn_hold (fuel := (nat_lit 21)) (sp := []) (HD := [(nat_lit 2)]) (HN := []) (mu := (((.ofNat (nat_lit 1000000000000000000000)), [], []), ((.ofNat (nat_lit 0)), [], []), (.ofNat (nat_lit 0)), [], [])) (KS := []) (NS := [((nat_lit 2), ([((nat_lit 2), (nat_lit 0), (nat_lit 1), (.ofNat (nat_lit 0))), ((nat_lit 0), (nat_lit 2), (nat_lit 9), (.ofNat (nat_lit 0))), ((nat_lit 1), (nat_lit 2), (nat_lit 24), (.ofNat (nat_lit 0)))], [], [((.ofNat (nat_lit 0)), (.ofNat (nat_lit 0))), ((.ofNat (nat_lit 0)), (.ofNat (nat_lit 64)))], [], [], [((nat_lit 24), (nat_lit 0)), ((nat_lit 24), (nat_lit 1000000))]), ((.ofNat (nat_lit 64)), [], [(nat_lit 1)]), ((.ofNat (nat_lit 0)), [], []), (.ofNat (nat_lit 0)), [], [])]) hinj nn_MT_code nn_KI1_ok nn_KJ1_ok nn_PF1_ok nn_PS1_ok nn_PM1_ok (fun _ h => absurd h List.not_mem_nil) (by decide +kernel)
/-- NameNotes.copyRow 10 25 -/
def cd_302 : ab_CN := ([((nat_lit 2), (nat_lit 10), (.ofNat (nat_lit 0))), ((nat_lit 2), (nat_lit 25), (.ofNat (nat_lit 0)))], [((.ofNat (nat_lit 0)), (.ofNat (nat_lit 0)))], [], [], [([], [((.ofNat (nat_lit 0)), (.ofNat (nat_lit 0)))], [], [], [((nat_lit 25), (nat_lit 1000000))])])
theorem ct_302 (l : Launch) (cy : Nat → ClassId) (ad wr cr : Nat → Nat) (D : va_G) (hinj : nn_inj ad) : nn_H l cy ad wr cr D (50, 0, cd_302) := nn_hold (fuel := (nat_lit 21)) (sp := []) (HD := [(nat_lit 2)]) (HN := []) (mu := (((.ofNat (nat_lit 1000000000000000000000)), [], []), ((.ofNat (nat_lit 0)), [], []), (.ofNat (nat_lit 0)), [], [])) (KS := []) (NS := [((nat_lit 2), ([((nat_lit 2), (nat_lit 0), (nat_lit 1), (.ofNat (nat_lit 0))), ((nat_lit 0), (nat_lit 2), (nat_lit 10), (.ofNat (nat_lit 0))), ((nat_lit 1), (nat_lit 2), (nat_lit 25), (.ofNat (nat_lit 0)))], [], [((.ofNat (nat_lit 0)), (.ofNat (nat_lit 0))), ((.ofNat (nat_lit 0)), (.ofNat (nat_lit 5)))], [], [], [((nat_lit 25), (nat_lit 0)), ((nat_lit 25), (nat_lit 1000000))]), ((.ofNat (nat_lit 5)), [], [(nat_lit 1)]), ((.ofNat (nat_lit 0)), [], []), (.ofNat (nat_lit 0)), [], [])]) hinj nn_MT_code nn_KI1_ok nn_KJ1_ok nn_PF1_ok nn_PS1_ok nn_PM1_ok (fun _ h => absurd h List.not_mem_nil) (by decide +kernel)
/-- NameNotes.copyRow 11 26 -/
def cd_303 : ab_CN := ([((nat_lit 2), (nat_lit 11), (.ofNat (nat_lit 0))), ((nat_lit 2), (nat_lit 26), (.ofNat (nat_lit 0)))], [((.ofNat (nat_lit 0)), (.ofNat (nat_lit 0)))], [], [], [([], [((.ofNat (nat_lit 0)), (.ofNat (nat_lit 0)))], [], [], [((nat_lit 26), (nat_lit 1000000))])])
theorem ct_303 (l : Launch) (cy : Nat → ClassId) (ad wr cr : Nat → Nat) (D : va_G) (hinj : nn_inj ad) : nn_H l cy ad wr cr D (51, 0, cd_303) := nn_hold (fuel := (nat_lit 21)) (sp := []) (HD := [(nat_lit 2)]) (HN := []) (mu := (((.ofNat (nat_lit 1000000000000000000000)), [], []), ((.ofNat (nat_lit 0)), [], []), (.ofNat (nat_lit 0)), [], [])) (KS := []) (NS := [((nat_lit 2), ([((nat_lit 2), (nat_lit 0), (nat_lit 1), (.ofNat (nat_lit 0))), ((nat_lit 0), (nat_lit 2), (nat_lit 11), (.ofNat (nat_lit 0))), ((nat_lit 1), (nat_lit 2), (nat_lit 26), (.ofNat (nat_lit 0)))], [], [((.ofNat (nat_lit 0)), (.ofNat (nat_lit 0))), ((.ofNat (nat_lit 0)), (.ofNat (nat_lit 9)))], [], [], [((nat_lit 26), (nat_lit 0)), ((nat_lit 26), (nat_lit 1000000))]), ((.ofNat (nat_lit 9)), [], [(nat_lit 1)]), ((.ofNat (nat_lit 0)), [], []), (.ofNat (nat_lit 0)), [], [])]) hinj nn_MT_code nn_KI1_ok nn_KJ1_ok nn_PF1_ok nn_PS1_ok nn_PM1_ok (fun _ h => absurd h List.not_mem_nil) (by decide +kernel)
/-- NameNotes.copyRow 12 27 -/
def cd_304 : ab_CN := ([((nat_lit 2), (nat_lit 12), (.ofNat (nat_lit 0))), ((nat_lit 2), (nat_lit 27), (.ofNat (nat_lit 0)))], [((.ofNat (nat_lit 0)), (.ofNat (nat_lit 0)))], [], [], [([], [((.ofNat (nat_lit 0)), (.ofNat (nat_lit 0)))], [], [], [((nat_lit 27), (nat_lit 1000000))])])
theorem ct_304 (l : Launch) (cy : Nat → ClassId) (ad wr cr : Nat → Nat) (D : va_G) (hinj : nn_inj ad) : nn_H l cy ad wr cr D (51, 0, cd_304) := nn_hold (fuel := (nat_lit 21)) (sp := []) (HD := [(nat_lit 2)]) (HN := []) (mu := (((.ofNat (nat_lit 1000000000000000000000)), [], []), ((.ofNat (nat_lit 0)), [], []), (.ofNat (nat_lit 0)), [], [])) (KS := []) (NS := [((nat_lit 2), ([((nat_lit 2), (nat_lit 0), (nat_lit 1), (.ofNat (nat_lit 0))), ((nat_lit 0), (nat_lit 2), (nat_lit 12), (.ofNat (nat_lit 0))), ((nat_lit 1), (nat_lit 2), (nat_lit 27), (.ofNat (nat_lit 0)))], [], [((.ofNat (nat_lit 0)), (.ofNat (nat_lit 0))), ((.ofNat (nat_lit 0)), (.ofNat (nat_lit 8)))], [], [], [((nat_lit 27), (nat_lit 0)), ((nat_lit 27), (nat_lit 1000000))]), ((.ofNat (nat_lit 8)), [], [(nat_lit 1)]), ((.ofNat (nat_lit 0)), [], []), (.ofNat (nat_lit 0)), [], [])]) hinj nn_MT_code nn_KI1_ok nn_KJ1_ok nn_PF1_ok nn_PS1_ok nn_PM1_ok (fun _ h => absurd h List.not_mem_nil) (by decide +kernel)
/-- NameNotes.copyRow 13 28 -/
def cd_305 : ab_CN := ([((nat_lit 2), (nat_lit 13), (.ofNat (nat_lit 0))), ((nat_lit 2), (nat_lit 28), (.ofNat (nat_lit 0)))], [((.ofNat (nat_lit 0)), (.ofNat (nat_lit 0)))], [], [], [([], [((.ofNat (nat_lit 0)), (.ofNat (nat_lit 0)))], [], [], [((nat_lit 28), (nat_lit 1000000))])])
theorem ct_305 (l : Launch) (cy : Nat → ClassId) (ad wr cr : Nat → Nat) (D : va_G) (hinj : nn_inj ad) : nn_H l cy ad wr cr D (51, 0, cd_305) := nn_hold (fuel := (nat_lit 21)) (sp := []) (HD := [(nat_lit 2)]) (HN := []) (mu := (((.ofNat (nat_lit 1000000000000000000000)), [], []), ((.ofNat (nat_lit 0)), [], []), (.ofNat (nat_lit 0)), [], [])) (KS := []) (NS := [((nat_lit 2), ([((nat_lit 2), (nat_lit 0), (nat_lit 1), (.ofNat (nat_lit 0))), ((nat_lit 0), (nat_lit 2), (nat_lit 13), (.ofNat (nat_lit 0))), ((nat_lit 1), (nat_lit 2), (nat_lit 28), (.ofNat (nat_lit 0)))], [], [((.ofNat (nat_lit 0)), (.ofNat (nat_lit 0))), ((.ofNat (nat_lit 0)), (.ofNat (nat_lit 5)))], [], [], [((nat_lit 28), (nat_lit 0)), ((nat_lit 28), (nat_lit 1000000))]), ((.ofNat (nat_lit 5)), [], [(nat_lit 1)]), ((.ofNat (nat_lit 0)), [], []), (.ofNat (nat_lit 0)), [], [])]) hinj nn_MT_code nn_KI1_ok nn_KJ1_ok nn_PF1_ok nn_PS1_ok nn_PM1_ok (fun _ h => absurd h List.not_mem_nil) (by decide +kernel)
/-- NameNotes.copyRow 15 30 -/
def cd_306 : ab_CN := ([((nat_lit 2), (nat_lit 15), (.ofNat (nat_lit 0))), ((nat_lit 2), (nat_lit 30), (.ofNat (nat_lit 0)))], [((.ofNat (nat_lit 0)), (.ofNat (nat_lit 0)))], [], [], [([], [((.ofNat (nat_lit 0)), (.ofNat (nat_lit 0)))], [], [], [((nat_lit 30), (nat_lit 1000000))])])
theorem ct_306 (l : Launch) (cy : Nat → ClassId) (ad wr cr : Nat → Nat) (D : va_G) (hinj : nn_inj ad) : nn_H l cy ad wr cr D (50, 0, cd_306) := nn_hold (fuel := (nat_lit 21)) (sp := []) (HD := [(nat_lit 2)]) (HN := []) (mu := (((.ofNat (nat_lit 1000000000000000000000)), [], []), ((.ofNat (nat_lit 0)), [], []), (.ofNat (nat_lit 0)), [], [])) (KS := []) (NS := [((nat_lit 2), ([((nat_lit 2), (nat_lit 0), (nat_lit 1), (.ofNat (nat_lit 0))), ((nat_lit 0), (nat_lit 2), (nat_lit 15), (.ofNat (nat_lit 0))), ((nat_lit 1), (nat_lit 2), (nat_lit 30), (.ofNat (nat_lit 0)))], [], [((.ofNat (nat_lit 0)), (.ofNat (nat_lit 0))), ((.ofNat (nat_lit 0)), (.ofNat (nat_lit 64)))], [], [], [((nat_lit 30), (nat_lit 0)), ((nat_lit 30), (nat_lit 1000000))]), ((.ofNat (nat_lit 64)), [], [(nat_lit 1)]), ((.ofNat (nat_lit 0)), [], []), (.ofNat (nat_lit 0)), [], [])]) hinj nn_MT_code nn_KI1_ok nn_KJ1_ok nn_PF1_ok nn_PS1_ok nn_PM1_ok (fun _ h => absurd h List.not_mem_nil) (by decide +kernel)
/-- NameNotes.copyRow 16 31 -/
def cd_307 : ab_CN := ([((nat_lit 2), (nat_lit 16), (.ofNat (nat_lit 0))), ((nat_lit 2), (nat_lit 31), (.ofNat (nat_lit 0)))], [((.ofNat (nat_lit 0)), (.ofNat (nat_lit 0)))], [], [], [([], [((.ofNat (nat_lit 0)), (.ofNat (nat_lit 0)))], [], [], [((nat_lit 31), (nat_lit 1000000))])])
theorem ct_307 (l : Launch) (cy : Nat → ClassId) (ad wr cr : Nat → Nat) (D : va_G) (hinj : nn_inj ad) : nn_H l cy ad wr cr D (50, 0, cd_307) := nn_hold (fuel := (nat_lit 21)) (sp := []) (HD := [(nat_lit 2)]) (HN := []) (mu := (((.ofNat (nat_lit 1000000000000000000000)), [], []), ((.ofNat (nat_lit 0)), [], []), (.ofNat (nat_lit 0)), [], [])) (KS := []) (NS := [((nat_lit 2), ([((nat_lit 2), (nat_lit 0), (nat_lit 1), (.ofNat (nat_lit 0))), ((nat_lit 0), (nat_lit 2), (nat_lit 16), (.ofNat (nat_lit 0))), ((nat_lit 1), (nat_lit 2), (nat_lit 31), (.ofNat (nat_lit 0)))], [], [((.ofNat (nat_lit 0)), (.ofNat (nat_lit 0))), ((.ofNat (nat_lit 0)), (.ofNat (nat_lit 64)))], [], [], [((nat_lit 31), (nat_lit 0)), ((nat_lit 31), (nat_lit 1000000))]), ((.ofNat (nat_lit 64)), [], [(nat_lit 1)]), ((.ofNat (nat_lit 0)), [], []), (.ofNat (nat_lit 0)), [], [])]) hinj nn_MT_code nn_KI1_ok nn_KJ1_ok nn_PF1_ok nn_PS1_ok nn_PM1_ok (fun _ h => absurd h List.not_mem_nil) (by decide +kernel)
/-- NameNotes_Sentence.copy 29 14 -/
def cd_308 : ab_CN := ([((nat_lit 2), (nat_lit 29), (.ofNat (nat_lit 0))), ((nat_lit 2), (nat_lit 14), (.ofNat (nat_lit 0)))], [((.ofNat (nat_lit 0)), (.ofNat (nat_lit 0))), ((.negSucc (nat_lit 2147483647)), (.ofNat (nat_lit 2147483647))), ((.negSucc (nat_lit 2147483647)), (.ofNat (nat_lit 2147483647)))], [], [(((nat_lit 14), (nat_lit 3)), (nat_lit 1), (.ofNat (nat_lit 0))), (((nat_lit 14), (nat_lit 4)), (nat_lit 2), (.ofNat (nat_lit 0)))], [([], [((.ofNat (nat_lit 0)), (.ofNat (nat_lit 0))), ((.negSucc (nat_lit 2147483647)), (.ofNat (nat_lit 2147483647))), ((.negSucc (nat_lit 2147483647)), (.ofNat (nat_lit 2147483647)))], [], [(((nat_lit 29), (nat_lit 4)), (nat_lit 2), (.ofNat (nat_lit 0))), (((nat_lit 29), (nat_lit 3)), (nat_lit 1), (.ofNat (nat_lit 0)))], [((nat_lit 29), (nat_lit 3)), ((nat_lit 29), (nat_lit 4)), ((nat_lit 30), (nat_lit 1000000)), ((nat_lit 31), (nat_lit 1000000))])])
theorem ct_308 (l : Launch) (cy : Nat → ClassId) (ad wr cr : Nat → Nat) (D : va_G) (hinj : nn_inj ad) : nn_H l cy ad wr cr D (52, 1, cd_308) := nn_hold (fuel := (nat_lit 23)) (sp := []) (HD := []) (HN := []) (mu := (((.ofNat (nat_lit 0)), [], []), ((.ofNat (nat_lit 0)), [], []), (.ofNat (nat_lit 0)), [], [])) (KS := [((nat_lit 50), (nat_lit 0), cd_306), ((nat_lit 50), (nat_lit 0), cd_307)]) (NS := []) hinj nn_MT_code nn_KI5_ok nn_KJ5_ok nn_PF5_ok nn_PS5_ok nn_PM5_ok (List.forall_mem_cons.mpr ⟨ct_306 l cy ad wr cr D hinj, List.forall_mem_cons.mpr ⟨ct_307 l cy ad wr cr D hinj, fun _ h => absurd h List.not_mem_nil⟩⟩) (by decide +kernel)
/-- NameNotes_Studio.copy 18 3 -/
def cd_309 : ab_CN := ([((nat_lit 2), (nat_lit 18), (.ofNat (nat_lit 0))), ((nat_lit 2), (nat_lit 3), (.ofNat (nat_lit 0)))], [((.ofNat (nat_lit 0)), (.ofNat (nat_lit 0))), ((.ofNat (nat_lit 0)), (.ofNat (nat_lit 9))), ((.ofNat (nat_lit 0)), (.ofNat (nat_lit 6))), ((.ofNat (nat_lit 0)), (.ofNat (nat_lit 5))), ((.negSucc (nat_lit 2147483647)), (.ofNat (nat_lit 2147483647))), ((.negSucc (nat_lit 2147483647)), (.ofNat (nat_lit 2147483647)))], [], [(((nat_lit 3), (nat_lit 11)), (nat_lit 1), (.ofNat (nat_lit 0))), (((nat_lit 3), (nat_lit 12)), (nat_lit 2), (.ofNat (nat_lit 0))), (((nat_lit 3), (nat_lit 13)), (nat_lit 3), (.ofNat (nat_lit 0))), (((nat_lit 3), (nat_lit 14)), (nat_lit 4), (.ofNat (nat_lit 0))), (((nat_lit 3), (nat_lit 15)), (nat_lit 5), (.ofNat (nat_lit 0)))], [([], [((.ofNat (nat_lit 0)), (.ofNat (nat_lit 0))), ((.ofNat (nat_lit 0)), (.ofNat (nat_lit 9))), ((.ofNat (nat_lit 0)), (.ofNat (nat_lit 6))), ((.ofNat (nat_lit 0)), (.ofNat (nat_lit 5))), ((.negSucc (nat_lit 2147483647)), (.ofNat (nat_lit 2147483647))), ((.negSucc (nat_lit 2147483647)), (.ofNat (nat_lit 2147483647))), ((.negSucc (nat_lit 2147483647)), (.ofNat (nat_lit 2147483647))), ((.negSucc (nat_lit 2147483647)), (.ofNat (nat_lit 2147483647)))], [], [(((nat_lit 18), (nat_lit 15)), (nat_lit 5), (.ofNat (nat_lit 0))), (((nat_lit 18), (nat_lit 14)), (nat_lit 4), (.ofNat (nat_lit 0))), (((nat_lit 18), (nat_lit 13)), (nat_lit 3), (.ofNat (nat_lit 0))), (((nat_lit 18), (nat_lit 12)), (nat_lit 2), (.ofNat (nat_lit 0))), (((nat_lit 18), (nat_lit 11)), (nat_lit 1), (.ofNat (nat_lit 0))), (((nat_lit 29), (nat_lit 4)), (nat_lit 6), (.ofNat (nat_lit 0))), (((nat_lit 29), (nat_lit 3)), (nat_lit 7), (.ofNat (nat_lit 0)))], [((nat_lit 18), (nat_lit 11)), ((nat_lit 18), (nat_lit 12)), ((nat_lit 18), (nat_lit 13)), ((nat_lit 18), (nat_lit 14)), ((nat_lit 18), (nat_lit 15)), ((nat_lit 19), (nat_lit 1000000)), ((nat_lit 20), (nat_lit 1000000)), ((nat_lit 21), (nat_lit 1000000)), ((nat_lit 22), (nat_lit 1000000)), ((nat_lit 23), (nat_lit 1000000)), ((nat_lit 24), (nat_lit 1000000)), ((nat_lit 25), (nat_lit 1000000)), ((nat_lit 26), (nat_lit 1000000)), ((nat_lit 27), (nat_lit 1000000)), ((nat_lit 28), (nat_lit 1000000)), ((nat_lit 29), (nat_lit 3)), ((nat_lit 29), (nat_lit 4)), ((nat_lit 30), (nat_lit 1000000)), ((nat_lit 31), (nat_lit 1000000))])])
theorem ct_309 (l : Launch) (cy : Nat → ClassId) (ad wr cr : Nat → Nat) (D : va_G) (hinj : nn_inj ad) : nn_H l cy ad wr cr D (49, 2, cd_309) := nn_hold (fuel := (nat_lit 80)) (sp := []) (HD := []) (HN := []) (mu := (((.ofNat (nat_lit 0)), [], []), ((.ofNat (nat_lit 0)), [], []), (.ofNat (nat_lit 0)), [], [])) (KS := [((nat_lit 50), (nat_lit 0), cd_296), ((nat_lit 50), (nat_lit 0), cd_297), ((nat_lit 50), (nat_lit 0), cd_298), ((nat_lit 50), (nat_lit 0), cd_299), ((nat_lit 50), (nat_lit 0), cd_300), ((nat_lit 50), (nat_lit 0), cd_301), ((nat_lit 50), (nat_lit 0), cd_302), ((nat_lit 51), (nat_lit 0), cd_303), ((nat_lit 51), (nat_lit 0), cd_304), ((nat_lit 51), (nat_lit 0), cd_305), ((nat_lit 52), (nat_lit 1), cd_308)]) (NS := []) hinj nn_MT_code nn_KI6_ok nn_KJ6_ok nn_PF6_ok nn_PS6_ok nn_PM6_ok (List.forall_mem_cons.mpr ⟨ct_296 l cy ad wr cr D hinj, List.forall_mem_cons.mpr ⟨ct_297 l cy ad wr cr D hinj, List.forall_mem_cons.mpr ⟨ct_298 l cy ad wr cr D hinj, List.forall_mem_cons.mpr ⟨ct_299 l cy ad wr cr D hinj, List.forall_mem_cons.mpr ⟨ct_300 l cy ad wr cr D hinj, List.forall_mem_cons.mpr ⟨ct_301 l cy ad wr cr D hinj, List.forall_mem_cons.mpr ⟨ct_302 l cy ad wr cr D hinj, List.forall_mem_cons.mpr ⟨ct_303 l cy ad wr cr D hinj, List.forall_mem_cons.mpr ⟨ct_304 l cy ad wr cr D hinj, List.forall_mem_cons.mpr ⟨ct_305 l cy ad wr cr D hinj, List.forall_mem_cons.mpr ⟨ct_308 l cy ad wr cr D hinj, fun _ h => absurd h List.not_mem_nil⟩⟩⟩⟩⟩⟩⟩⟩⟩⟩⟩) (by decide +kernel)
/-- NameNotes.image 0 -/
def cd_310 : ab_CN := ([((nat_lit 2), (nat_lit 0), (.ofNat (nat_lit 0))), ((nat_lit 0), (nat_lit 1), (.ofNat (nat_lit 0)))], [((.ofNat (nat_lit 0)), (.ofNat (nat_lit 0))), ((.negSucc (nat_lit 2147483647)), (.ofNat (nat_lit 2147483647)))], [], [], [([((nat_lit 0), (nat_lit 0), (.ofNat (nat_lit 0)))], [((.ofNat (nat_lit 0)), (.ofNat (nat_lit 0))), ((.negSucc (nat_lit 2147483647)), (.ofNat (nat_lit 2147483647)))], [], [], []), ([((nat_lit 0), (nat_lit 0), (.ofNat (nat_lit 1)))], [((.ofNat (nat_lit 0)), (.ofNat (nat_lit 0))), ((.ofNat (nat_lit 0)), (.ofNat (nat_lit 1))), ((.ofNat (nat_lit 0)), (.ofNat (nat_lit 1))), ((.negSucc (nat_lit 2147483647)), (.ofNat (nat_lit 2147483647))), ((.negSucc (nat_lit 2147483647)), (.ofNat (nat_lit 2147483647))), ((.ofNat (nat_lit 0)), (.ofNat (nat_lit 5))), ((.ofNat (nat_lit 0)), (.ofNat (nat_lit 6))), ((.ofNat (nat_lit 0)), (.ofNat (nat_lit 9))), ((.negSucc (nat_lit 2147483647)), (.ofNat (nat_lit 2147483647))), ((.negSucc (nat_lit 2147483647)), (.ofNat (nat_lit 2147483647)))], [((nat_lit 1), (nat_lit 2), (.ofNat (nat_lit 0)))], [(((nat_lit 33), (nat_lit 16)), (nat_lit 2), (.ofNat (nat_lit 0))), (((nat_lit 33), (nat_lit 15)), (nat_lit 3), (.ofNat (nat_lit 0))), (((nat_lit 33), (nat_lit 14)), (nat_lit 4), (.ofNat (nat_lit 0))), (((nat_lit 33), (nat_lit 13)), (nat_lit 5), (.ofNat (nat_lit 0))), (((nat_lit 33), (nat_lit 12)), (nat_lit 6), (.ofNat (nat_lit 0))), (((nat_lit 33), (nat_lit 11)), (nat_lit 7), (.ofNat (nat_lit 0))), (((nat_lit 44), (nat_lit 4)), (nat_lit 8), (.ofNat (nat_lit 0))), (((nat_lit 44), (nat_lit 3)), (nat_lit 9), (.ofNat (nat_lit 0)))], [((nat_lit 18), (nat_lit 11)), ((nat_lit 18), (nat_lit 12)), ((nat_lit 18), (nat_lit 13)), ((nat_lit 18), (nat_lit 14)), ((nat_lit 18), (nat_lit 15)), ((nat_lit 18), (nat_lit 16)), ((nat_lit 19), (nat_lit 1000000)), ((nat_lit 20), (nat_lit 1000000)), ((nat_lit 21), (nat_lit 1000000)), ((nat_lit 22), (nat_lit 1000000)), ((nat_lit 23), (nat_lit 1000000)), ((nat_lit 24), (nat_lit 1000000)), ((nat_lit 25), (nat_lit 1000000)), ((nat_lit 26), (nat_lit 1000000)), ((nat_lit 27), (nat_lit 1000000)), ((nat_lit 28), (nat_lit 1000000)), ((nat_lit 29), (nat_lit 3)), ((nat_lit 29), (nat_lit 4)), ((nat_lit 30), (nat_lit 1000000)), ((nat_lit 31), (nat_lit 1000000)), ((nat_lit 33), (nat_lit 11)), ((nat_lit 33), (nat_lit 12)), ((nat_lit 33), (nat_lit 13)), ((nat_lit 33), (nat_lit 14)), ((nat_lit 33), (nat_lit 15)), ((nat_lit 33), (nat_lit 16)), ((nat_lit 34), (nat_lit 1000000)), ((nat_lit 35), (nat_lit 1000000)), ((nat_lit 36), (nat_lit 1000000)), ((nat_lit 37), (nat_lit 1000000)), ((nat_lit 38), (nat_lit 1000000)), ((nat_lit 39), (nat_lit 1000000)), ((nat_lit 40), (nat_lit 1000000)), ((nat_lit 41), (nat_lit 1000000)), ((nat_lit 42), (nat_lit 1000000)), ((nat_lit 43), (nat_lit 1000000)), ((nat_lit 44), (nat_lit 3)), ((nat_lit 44), (nat_lit 4)), ((nat_lit 45), (nat_lit 1000000)), ((nat_lit 46), (nat_lit 1000000))])])
theorem ct_310 (l : Launch) (cy : Nat → ClassId) (ad wr cr : Nat → Nat) (D : va_G) (hinj : nn_inj ad) : nn_H l cy ad wr cr D (184, 3, cd_310) := nn_hold (fuel := (nat_lit 19)) (sp := []) (HD := []) (HN := []) (mu := (((.ofNat (nat_lit 0)), [], []), ((.ofNat (nat_lit 0)), [], []), (.ofNat (nat_lit 0)), [], [])) (KS := [((nat_lit 185), (nat_lit 0), cd_281), ((nat_lit 49), (nat_lit 2), cd_295), ((nat_lit 49), (nat_lit 2), cd_309)]) (NS := []) hinj nn_MT_code nn_KI1_ok nn_KJ1_ok nn_PF1_ok nn_PS1_ok nn_PM1_ok (List.forall_mem_cons.mpr ⟨ct_281 l cy ad wr cr D hinj, List.forall_mem_cons.mpr ⟨ct_295 l cy ad wr cr D hinj, List.forall_mem_cons.mpr ⟨ct_309 l cy ad wr cr D hinj, fun _ h => absurd h List.not_mem_nil⟩⟩⟩) (by decide +kernel)
/-- NameNotes.copyRow 34 4 -/
def cd_311 : ab_CN := ([((nat_lit 2), (nat_lit 34), (.ofNat (nat_lit 0))), ((nat_lit 2), (nat_lit 4), (.ofNat (nat_lit 0)))], [((.ofNat (nat_lit 0)), (.ofNat (nat_lit 0)))], [], [], [([], [((.ofNat (nat_lit 0)), (.ofNat (nat_lit 0)))], [], [], [((nat_lit 4), (nat_lit 1000000))])])
theorem ct_311 (l : Launch) (cy : Nat → ClassId) (ad wr cr : Nat → Nat) (D : va_G) (hinj : nn_inj ad) : nn_H l cy ad wr cr D (50, 0, cd_311) := nn_hold (fuel := (nat_lit 21)) (sp := []) (HD := [(nat_lit 2)]) (HN := []) (mu := (((.ofNat (nat_lit 1000000000000000000000)), [], []), ((.ofNat (nat_lit 0)), [], []), (.ofNat (nat_lit 0)), [], [])) (KS := []) (NS := [((nat_lit 2), ([((nat_lit 2), (nat_lit 0), (nat_lit 1), (.ofNat (nat_lit 0))), ((nat_lit 0), (nat_lit 2), (nat_lit 34), (.ofNat (nat_lit 0))), ((nat_lit 1), (nat_lit 2), (nat_lit 4), (.ofNat (nat_lit 0)))], [], [((.ofNat (nat_lit 0)), (.ofNat (nat_lit 0))), ((.ofNat (nat_lit 0)), (.ofNat (nat_lit 512)))], [], [], [((nat_lit 4), (nat_lit 0)), ((nat_lit 4), (nat_lit 1000000))]), ((.ofNat (nat_lit 512)), [], [(nat_lit 1)]), ((.ofNat (nat_lit 0)), [], []), (.ofNat (nat_lit 0)), [], [])]) hinj nn_MT_code nn_KI1_ok nn_KJ1_ok nn_PF1_ok nn_PS1_ok nn_PM1_ok (fun _ h => absurd h List.not_mem_nil) (by decide +kernel)
/-- NameNotes.copyRow 35 5 -/
def cd_312 : ab_CN := ([((nat_lit 2), (nat_lit 35), (.ofNat (nat_lit 0))), ((nat_lit 2), (nat_lit 5), (.ofNat (nat_lit 0)))], [((.ofNat (nat_lit 0)), (.ofNat (nat_lit 0)))], [], [], [([], [((.ofNat (nat_lit 0)), (.ofNat (nat_lit 0)))], [], [], [((nat_lit 5), (nat_lit 1000000))])])
theorem ct_312 (l : Launch) (cy : Nat → ClassId) (ad wr cr : Nat → Nat) (D : va_G) (hinj : nn_inj ad) : nn_H l cy ad wr cr D (50, 0, cd_312) := nn_hold (fuel := (nat_lit 21)) (sp := []) (HD := [(nat_lit 2)]) (HN := []) (mu := (((.ofNat (nat_lit 1000000000000000000000)), [], []), ((.ofNat (nat_lit 0)), [], []), (.ofNat (nat_lit 0)), [], [])) (KS := []) (NS := [((nat_lit 2), ([((nat_lit 2), (nat_lit 0), (nat_lit 1), (.ofNat (nat_lit 0))), ((nat_lit 0), (nat_lit 2), (nat_lit 35), (.ofNat (nat_lit 0))), ((nat_lit 1), (nat_lit 2), (nat_lit 5), (.ofNat (nat_lit 0)))], [], [((.ofNat (nat_lit 0)), (.ofNat (nat_lit 0))), ((.ofNat (nat_lit 0)), (.ofNat (nat_lit 512)))], [], [], [((nat_lit 5), (nat_lit 0)), ((nat_lit 5), (nat_lit 1000000))]), ((.ofNat (nat_lit 512)), [], [(nat_lit 1)]), ((.ofNat (nat_lit 0)), [], []), (.ofNat (nat_lit 0)), [], [])]) hinj nn_MT_code nn_KI1_ok nn_KJ1_ok nn_PF1_ok nn_PS1_ok nn_PM1_ok (fun _ h => absurd h List.not_mem_nil) (by decide +kernel)
/-- NameNotes.copyRow 36 6 -/
def cd_313 : ab_CN := ([((nat_lit 2), (nat_lit 36), (.ofNat (nat_lit 0))), ((nat_lit 2), (nat_lit 6), (.ofNat (nat_lit 0)))], [((.ofNat (nat_lit 0)), (.ofNat (nat_lit 0)))], [], [], [([], [((.ofNat (nat_lit 0)), (.ofNat (nat_lit 0)))], [], [], [((nat_lit 6), (nat_lit 1000000))])])
theorem ct_313 (l : Launch) (cy : Nat → ClassId) (ad wr cr : Nat → Nat) (D : va_G) (hinj : nn_inj ad) : nn_H l cy ad wr cr D (50, 0, cd_313) := nn_hold (fuel := (nat_lit 21)) (sp := []) (HD := [(nat_lit 2)]) (HN := []) (mu := (((.ofNat (nat_lit 1000000000000000000000)), [], []), ((.ofNat (nat_lit 0)), [], []), (.ofNat (nat_lit 0)), [], [])) (KS := []) (NS := [((nat_lit 2), ([((nat_lit 2), (nat_lit 0), (nat_lit 1), (.ofNat (nat_lit 0))), ((nat_lit 0), (nat_lit 2), (nat_lit 36), (.ofNat (nat_lit 0))), ((nat_lit 1), (nat_lit 2), (nat_lit 6), (.ofNat (nat_lit 0)))], [], [((.ofNat (nat_lit 0)), (.ofNat (nat_lit 0))), ((.ofNat (nat_lit 0)), (.ofNat (nat_lit 9)))], [], [], [((nat_lit 6), (nat_lit 0)), ((nat_lit 6), (nat_lit 1000000))]), ((.ofNat (nat_lit 9)), [], [(nat_lit 1)]), ((.ofNat (nat_lit 0)), [], []), (.ofNat (nat_lit 0)), [], [])]) hinj nn_MT_code nn_KI1_ok nn_KJ1_ok nn_PF1_ok nn_PS1_ok nn_PM1_ok (fun _ h => absurd h List.not_mem_nil) (by decide +kernel)
/-- NameNotes.copyRow 37 7 -/
def cd_314 : ab_CN := ([((nat_lit 2), (nat_lit 37), (.ofNat (nat_lit 0))), ((nat_lit 2), (nat_lit 7), (.ofNat (nat_lit 0)))], [((.ofNat (nat_lit 0)), (.ofNat (nat_lit 0)))], [], [], [([], [((.ofNat (nat_lit 0)), (.ofNat (nat_lit 0)))], [], [], [((nat_lit 7), (nat_lit 1000000))])])
theorem ct_314 (l : Launch) (cy : Nat → ClassId) (ad wr cr : Nat → Nat) (D : va_G) (hinj : nn_inj ad) : nn_H l cy ad wr cr D (50, 0, cd_314) := nn_hold (fuel := (nat_lit 21)) (sp := []) (HD := [(nat_lit 2)]) (HN := []) (mu := (((.ofNat (nat_lit 1000000000000000000000)), [], []), ((.ofNat (nat_lit 0)), [], []), (.ofNat (nat_lit 0)), [], [])) (KS := []) (NS := [((nat_lit 2), ([((nat_lit 2), (nat_lit 0), (nat_lit 1), (.ofNat (nat_lit 0))), ((nat_lit 0), (nat_lit 2), (nat_lit 37), (.ofNat (nat_lit 0))), ((nat_lit 1), (nat_lit 2), (nat_lit 7), (.ofNat (nat_lit 0)))], [], [((.ofNat (nat_lit 0)), (.ofNat (nat_lit 0))), ((.ofNat (nat_lit 0)), (.ofNat (nat_lit 512)))], [], [], [((nat_lit 7), (nat_lit 0)), ((nat_lit 7), (nat_lit 1000000))]), ((.ofNat (nat_lit 512)), [], [(nat_lit 1)]), ((.ofNat (nat_lit 0)), [], []), (.ofNat (nat_lit 0)), [], [])]) hinj nn_MT_code nn_KI1_ok nn_KJ1_ok nn_PF1_ok nn_PS1_ok nn_PM1_ok (fun _ h => absurd h List.not_mem_nil) (by decide +kernel)
/-- NameNotes.copyRow 38 8 -/
def cd_315 : ab_CN := ([((nat_lit 2), (nat_lit 38), (.ofNat (nat_lit 0))), ((nat_lit 2), (nat_lit 8), (.ofNat (nat_lit 0)))], [((.ofNat (nat_lit 0)), (.ofNat (nat_lit 0)))], [], [], [([], [((.ofNat (nat_lit 0)), (.ofNat (nat_lit 0)))], [], [], [((nat_lit 8), (nat_lit 1000000))])])
theorem ct_315 (l : Launch) (cy : Nat → ClassId) (ad wr cr : Nat → Nat) (D : va_G) (hinj : nn_inj ad) : nn_H l cy ad wr cr D (50, 0, cd_315) := nn_hold (fuel := (nat_lit 21)) (sp := []) (HD := [(nat_lit 2)]) (HN := []) (mu := (((.ofNat (nat_lit 1000000000000000000000)), [], []), ((.ofNat (nat_lit 0)), [], []), (.ofNat (nat_lit 0)), [], [])) (KS := []) (NS := [((nat_lit 2), ([((nat_lit 2), (nat_lit 0), (nat_lit 1), (.ofNat (nat_lit 0))), ((nat_lit 0), (nat_lit 2), (nat_lit 38), (.ofNat (nat_lit 0))), ((nat_lit 1), (nat_lit 2), (nat_lit 8), (.ofNat (nat_lit 0)))], [], [((.ofNat (nat_lit 0)), (.ofNat (nat_lit 0))), ((.ofNat (nat_lit 0)), (.ofNat (nat_lit 8)))], [], [], [((nat_lit 8), (nat_lit 0)), ((nat_lit 8), (nat_lit 1000000))]), ((.ofNat (nat_lit 8)), [], [(nat_lit 1)]), ((.ofNat (nat_lit 0)), [], []), (.ofNat (nat_lit 0)), [], [])]) hinj nn_MT_code nn_KI1_ok nn_KJ1_ok nn_PF1_ok nn_PS1_ok nn_PM1_ok (fun _ h => absurd h List.not_mem_nil) (by decide +kernel)
/-- NameNotes.copyRow 39 9 -/
def cd_316 : ab_CN := ([((nat_lit 2), (nat_lit 39), (.ofNat (nat_lit 0))), ((nat_lit 2), (nat_lit 9), (.ofNat (nat_lit 0)))], [((.ofNat (nat_lit 0)), (.ofNat (nat_lit 0)))], [], [], [([], [((.ofNat (nat_lit 0)), (.ofNat (nat_lit 0)))], [], [], [((nat_lit 9), (nat_lit 1000000))])])
theorem ct_316 (l : Launch) (cy : Nat → ClassId) (ad wr cr : Nat → Nat) (D : va_G) (hinj : nn_inj ad) : nn_H l cy ad wr cr D (50, 0, cd_316) := nn_hold (fuel := (nat_lit 21)) (sp := []) (HD := [(nat_lit 2)]) (HN := []) (mu := (((.ofNat (nat_lit 1000000000000000000000)), [], []), ((.ofNat (nat_lit 0)), [], []), (.ofNat (nat_lit 0)), [], [])) (KS := []) (NS := [((nat_lit 2), ([((nat_lit 2), (nat_lit 0), (nat_lit 1), (.ofNat (nat_lit 0))), ((nat_lit 0), (nat_lit 2), (nat_lit 39), (.ofNat (nat_lit 0))), ((nat_lit 1), (nat_lit 2), (nat_lit 9), (.ofNat (nat_lit 0)))], [], [((.ofNat (nat_lit 0)), (.ofNat (nat_lit 0))), ((.ofNat (nat_lit 0)), (.ofNat (nat_lit 64)))], [], [], [((nat_lit 9), (nat_lit 0)), ((nat_lit 9), (nat_lit 1000000))]), ((.ofNat (nat_lit 64)), [], [(nat_lit 1)]), ((.ofNat (nat_lit 0)), [], []), (.ofNat (nat_lit 0)), [], [])]) hinj nn_MT_code nn_KI1_ok nn_KJ1_ok nn_PF1_ok nn_PS1_ok nn_PM1_ok (fun _ h => absurd h List.not_mem_nil) (by decide +kernel)
/-- NameNotes.copyRow 40 10 -/
def cd_317 : ab_CN := ([((nat_lit 2), (nat_lit 40), (.ofNat (nat_lit 0))), ((nat_lit 2), (nat_lit 10), (.ofNat (nat_lit 0)))], [((.ofNat (nat_lit 0)), (.ofNat (nat_lit 0)))], [], [], [([], [((.ofNat (nat_lit 0)), (.ofNat (nat_lit 0)))], [], [], [((nat_lit 10), (nat_lit 1000000))])])
theorem ct_317 (l : Launch) (cy : Nat → ClassId) (ad wr cr : Nat → Nat) (D : va_G) (hinj : nn_inj ad) : nn_H l cy ad wr cr D (50, 0, cd_317) := nn_hold (fuel := (nat_lit 21)) (sp := []) (HD := [(nat_lit 2)]) (HN := []) (mu := (((.ofNat (nat_lit 1000000000000000000000)), [], []), ((.ofNat (nat_lit 0)), [], []), (.ofNat (nat_lit 0)), [], [])) (KS := []) (NS := [((nat_lit 2), ([((nat_lit 2), (nat_lit 0), (nat_lit 1), (.ofNat (nat_lit 0))), ((nat_lit 0), (nat_lit 2), (nat_lit 40), (.ofNat (nat_lit 0))), ((nat_lit 1), (nat_lit 2), (nat_lit 10), (.ofNat (nat_lit 0)))], [], [((.ofNat (nat_lit 0)), (.ofNat (nat_lit 0))), ((.ofNat (nat_lit 0)), (.ofNat (nat_lit 5)))], [], [], [((nat_lit 10), (nat_lit 0)), ((nat_lit 10), (nat_lit 1000000))]), ((.ofNat (nat_lit 5)), [], [(nat_lit 1)]), ((.ofNat (nat_lit 0)), [], []), (.ofNat (nat_lit 0)), [], [])]) hinj nn_MT_code nn_KI1_ok nn_KJ1_ok nn_PF1_ok nn_PS1_ok nn_PM1_ok (fun _ h => absurd h List.not_mem_nil) (by decide +kernel)
/-- NameNotes.copyRow 41 11 -/
def cd_318 : ab_CN := ([((nat_lit 2), (nat_lit 41), (.ofNat (nat_lit 0))), ((nat_lit 2), (nat_lit 11), (.ofNat (nat_lit 0)))], [((.ofNat (nat_lit 0)), (.ofNat (nat_lit 0)))], [], [], [([], [((.ofNat (nat_lit 0)), (.ofNat (nat_lit 0)))], [], [], [((nat_lit 11), (nat_lit 1000000))])])
theorem ct_318 (l : Launch) (cy : Nat → ClassId) (ad wr cr : Nat → Nat) (D : va_G) (hinj : nn_inj ad) : nn_H l cy ad wr cr D (51, 0, cd_318) := nn_hold (fuel := (nat_lit 21)) (sp := []) (HD := [(nat_lit 2)]) (HN := []) (mu := (((.ofNat (nat_lit 1000000000000000000000)), [], []), ((.ofNat (nat_lit 0)), [], []), (.ofNat (nat_lit 0)), [], [])) (KS := []) (NS := [((nat_lit 2), ([((nat_lit 2), (nat_lit 0), (nat_lit 1), (.ofNat (nat_lit 0))), ((nat_lit 0), (nat_lit 2), (nat_lit 41), (.ofNat (nat_lit 0))), ((nat_lit 1), (nat_lit 2), (nat_lit 11), (.ofNat (nat_lit 0)))], [], [((.ofNat (nat_lit 0)), (.ofNat (nat_lit 0))), ((.ofNat (nat_lit 0)), (.ofNat (nat_lit 9)))], [], [], [((nat_lit 11), (nat_lit 0)), ((nat_lit 11), (nat_lit 1000000))]), ((.ofNat (nat_lit 9)), [], [(nat_lit 1)]), ((.ofNat (nat_lit 0)), [], []), (.ofNat (nat_lit 0)), [], [])]) hinj nn_MT_code nn_KI1_ok nn_KJ1_ok nn_PF1_ok nn_PS1_ok nn_PM1_ok (fun _ h => absurd h List.not_mem_nil) (by decide +kernel)
/-- NameNotes.copyRow 42 12 -/
def cd_319 : ab_CN := ([((nat_lit 2), (nat_lit 42), (.ofNat (nat_lit 0))), ((nat_lit 2), (nat_lit 12), (.ofNat (nat_lit 0)))], [((.ofNat (nat_lit 0)), (.ofNat (nat_lit 0)))], [], [], [([], [((.ofNat (nat_lit 0)), (.ofNat (nat_lit 0)))], [], [], [((nat_lit 12), (nat_lit 1000000))])])
theorem ct_319 (l : Launch) (cy : Nat → ClassId) (ad wr cr : Nat → Nat) (D : va_G) (hinj : nn_inj ad) : nn_H l cy ad wr cr D (51, 0, cd_319) := nn_hold (fuel := (nat_lit 21)) (sp := []) (HD := [(nat_lit 2)]) (HN := []) (mu := (((.ofNat (nat_lit 1000000000000000000000)), [], []), ((.ofNat (nat_lit 0)), [], []), (.ofNat (nat_lit 0)), [], [])) (KS := []) (NS := [((nat_lit 2), ([((nat_lit 2), (nat_lit 0), (nat_lit 1), (.ofNat (nat_lit 0))), ((nat_lit 0), (nat_lit 2), (nat_lit 42), (.ofNat (nat_lit 0))), ((nat_lit 1), (nat_lit 2), (nat_lit 12), (.ofNat (nat_lit 0)))], [], [((.ofNat (nat_lit 0)), (.ofNat (nat_lit 0))), ((.ofNat (nat_lit 0)), (.ofNat (nat_lit 8)))], [], [], [((nat_lit 12), (nat_lit 0)), ((nat_lit 12), (nat_lit 1000000))]), ((.ofNat (nat_lit 8)), [], [(nat_lit 1)]), ((.ofNat (nat_lit 0)), [], []), (.ofNat (nat_lit 0)), [], [])]) hinj nn_MT_code nn_KI1_ok nn_KJ1_ok nn_PF1_ok nn_PS1_ok nn_PM1_ok (fun _ h => absurd h List.not_mem_nil) (by decide +kernel)
/-- NameNotes.copyRow 43 13 -/
def cd_320 : ab_CN := ([((nat_lit 2), (nat_lit 43), (.ofNat (nat_lit 0))), ((nat_lit 2), (nat_lit 13), (.ofNat (nat_lit 0)))], [((.ofNat (nat_lit 0)), (.ofNat (nat_lit 0)))], [], [], [([], [((.ofNat (nat_lit 0)), (.ofNat (nat_lit 0)))], [], [], [((nat_lit 13), (nat_lit 1000000))])])
theorem ct_320 (l : Launch) (cy : Nat → ClassId) (ad wr cr : Nat → Nat) (D : va_G) (hinj : nn_inj ad) : nn_H l cy ad wr cr D (51, 0, cd_320) := nn_hold (fuel := (nat_lit 21)) (sp := []) (HD := [(nat_lit 2)]) (HN := []) (mu := (((.ofNat (nat_lit 1000000000000000000000)), [], []), ((.ofNat (nat_lit 0)), [], []), (.ofNat (nat_lit 0)), [], [])) (KS := []) (NS := [((nat_lit 2), ([((nat_lit 2), (nat_lit 0), (nat_lit 1), (.ofNat (nat_lit 0))), ((nat_lit 0), (nat_lit 2), (nat_lit 43), (.ofNat (nat_lit 0))), ((nat_lit 1), (nat_lit 2), (nat_lit 13), (.ofNat (nat_lit 0)))], [], [((.ofNat (nat_lit 0)), (.ofNat (nat_lit 0))), ((.ofNat (nat_lit 0)), (.ofNat (nat_lit 5)))], [], [], [((nat_lit 13), (nat_lit 0)), ((nat_lit 13), (nat_lit 1000000))]), ((.ofNat (nat_lit 5)), [], [(nat_lit 1)]), ((.ofNat (nat_lit 0)), [], []), (.ofNat (nat_lit 0)), [], [])]) hinj nn_MT_code nn_KI1_ok nn_KJ1_ok nn_PF1_ok nn_PS1_ok nn_PM1_ok (fun _ h => absurd h List.not_mem_nil) (by decide +kernel)
/-- NameNotes.copyRow 45 15 -/
def cd_321 : ab_CN := ([((nat_lit 2), (nat_lit 45), (.ofNat (nat_lit 0))), ((nat_lit 2), (nat_lit 15), (.ofNat (nat_lit 0)))], [((.ofNat (nat_lit 0)), (.ofNat (nat_lit 0)))], [], [], [([], [((.ofNat (nat_lit 0)), (.ofNat (nat_lit 0)))], [], [], [((nat_lit 15), (nat_lit 1000000))])])
theorem ct_321 (l : Launch) (cy : Nat → ClassId) (ad wr cr : Nat → Nat) (D : va_G) (hinj : nn_inj ad) : nn_H l cy ad wr cr D (50, 0, cd_321) := nn_hold (fuel := (nat_lit 21)) (sp := []) (HD := [(nat_lit 2)]) (HN := []) (mu := (((.ofNat (nat_lit 1000000000000000000000)), [], []), ((.ofNat (nat_lit 0)), [], []), (.ofNat (nat_lit 0)), [], [])) (KS := []) (NS := [((nat_lit 2), ([((nat_lit 2), (nat_lit 0), (nat_lit 1), (.ofNat (nat_lit 0))), ((nat_lit 0), (nat_lit 2), (nat_lit 45), (.ofNat (nat_lit 0))), ((nat_lit 1), (nat_lit 2), (nat_lit 15), (.ofNat (nat_lit 0)))], [], [((.ofNat (nat_lit 0)), (.ofNat (nat_lit 0))), ((.ofNat (nat_lit 0)), (.ofNat (nat_lit 64)))], [], [], [((nat_lit 15), (nat_lit 0)), ((nat_lit 15), (nat_lit 1000000))]), ((.ofNat (nat_lit 64)), [], [(nat_lit 1)]), ((.ofNat (nat_lit 0)), [], []), (.ofNat (nat_lit 0)), [], [])]) hinj nn_MT_code nn_KI1_ok nn_KJ1_ok nn_PF1_ok nn_PS1_ok nn_PM1_ok (fun _ h => absurd h List.not_mem_nil) (by decide +kernel)
/-- NameNotes.copyRow 46 16 -/
def cd_322 : ab_CN := ([((nat_lit 2), (nat_lit 46), (.ofNat (nat_lit 0))), ((nat_lit 2), (nat_lit 16), (.ofNat (nat_lit 0)))], [((.ofNat (nat_lit 0)), (.ofNat (nat_lit 0)))], [], [], [([], [((.ofNat (nat_lit 0)), (.ofNat (nat_lit 0)))], [], [], [((nat_lit 16), (nat_lit 1000000))])])
theorem ct_322 (l : Launch) (cy : Nat → ClassId) (ad wr cr : Nat → Nat) (D : va_G) (hinj : nn_inj ad) : nn_H l cy ad wr cr D (50, 0, cd_322) := nn_hold (fuel := (nat_lit 21)) (sp := []) (HD := [(nat_lit 2)]) (HN := []) (mu := (((.ofNat (nat_lit 1000000000000000000000)), [], []), ((.ofNat (nat_lit 0)), [], []), (.ofNat (nat_lit 0)), [], [])) (KS := []) (NS := [((nat_lit 2), ([((nat_lit 2), (nat_lit 0), (nat_lit 1), (.ofNat (nat_lit 0))), ((nat_lit 0), (nat_lit 2), (nat_lit 46), (.ofNat (nat_lit 0))), ((nat_lit 1), (nat_lit 2), (nat_lit 16), (.ofNat (nat_lit 0)))], [], [((.ofNat (nat_lit 0)), (.ofNat (nat_lit 0))), ((.ofNat (nat_lit 0)), (.ofNat (nat_lit 64)))], [], [], [((nat_lit 16), (nat_lit 0)), ((nat_lit 16), (nat_lit 1000000))]), ((.ofNat (nat_lit 64)), [], [(nat_lit 1)]), ((.ofNat (nat_lit 0)), [], []), (.ofNat (nat_lit 0)), [], [])]) hinj nn_MT_code nn_KI1_ok nn_KJ1_ok nn_PF1_ok nn_PS1_ok nn_PM1_ok (fun _ h => absurd h List.not_mem_nil) (by decide +kernel)
/-- NameNotes_Sentence.copy 14 44 -/
def cd_323 : ab_CN := ([((nat_lit 2), (nat_lit 14), (.ofNat (nat_lit 0))), ((nat_lit 2), (nat_lit 44), (.ofNat (nat_lit 0)))], [((.ofNat (nat_lit 0)), (.ofNat (nat_lit 0))), ((.negSucc (nat_lit 2147483647)), (.ofNat (nat_lit 2147483647))), ((.negSucc (nat_lit 2147483647)), (.ofNat (nat_lit 2147483647)))], [], [(((nat_lit 44), (nat_lit 3)), (nat_lit 1), (.ofNat (nat_lit 0))), (((nat_lit 44), (nat_lit 4)), (nat_lit 2), (.ofNat (nat_lit 0)))], [([], [((.ofNat (nat_lit 0)), (.ofNat (nat_lit 0))), ((.negSucc (nat_lit 2147483647)), (.ofNat (nat_lit 2147483647))), ((.negSucc (nat_lit 2147483647)), (.ofNat (nat_lit 2147483647)))], [], [(((nat_lit 14), (nat_lit 4)), (nat_lit 2), (.ofNat (nat_lit 0))), (((nat_lit 14), (nat_lit 3)), (nat_lit 1), (.ofNat (nat_lit 0)))], [((nat_lit 14), (nat_lit 3)), ((nat_lit 14), (nat_lit 4)), ((nat_lit 15), (nat_lit 1000000)), ((nat_lit 16), (nat_lit 1000000))])])
theorem ct_323 (l : Launch) (cy : Nat → ClassId) (ad wr cr : Nat → Nat) (D : va_G) (hinj : nn_inj ad) : nn_H l cy ad wr cr D (52, 1, cd_323) := nn_hold (fuel := (nat_lit 23)) (sp := []) (HD := []) (HN := []) (mu := (((.ofNat (nat_lit 0)), [], []), ((.ofNat (nat_lit 0)), [], []), (.ofNat (nat_lit 0)), [], [])) (KS := [((nat_lit 50), (nat_lit 0), cd_321), ((nat_lit 50), (nat_lit 0), cd_322)]) (NS := []) hinj nn_MT_code nn_KI5_ok nn_KJ5_ok nn_PF5_ok nn_PS5_ok nn_PM5_ok (List.forall_mem_cons.mpr ⟨ct_321 l cy ad wr cr D hinj, List.forall_mem_cons.mpr ⟨ct_322 l cy ad wr cr D hinj, fun _ h => absurd h List.not_mem_nil⟩⟩) (by decide +kernel)
/-- NameNotes_Studio.copy 3 33 -/
def cd_324 : ab_CN := ([((nat_lit 2), (nat_lit 3), (.ofNat (nat_lit 0))), ((nat_lit 2), (nat_lit 33), (.ofNat (nat_lit 0)))], [((.ofNat (nat_lit 0)), (.ofNat (nat_lit 0))), ((.ofNat (nat_lit 0)), (.ofNat (nat_lit 9))), ((.ofNat (nat_lit 0)), (.ofNat (nat_lit 6))), ((.ofNat (nat_lit 0)), (.ofNat (nat_lit 5))), ((.negSucc (nat_lit 2147483647)), (.ofNat (nat_lit 2147483647))), ((.negSucc (nat_lit 2147483647)), (.ofNat (nat_lit 2147483647)))], [], [(((nat_lit 33), (nat_lit 11)), (nat_lit 1), (.ofNat (nat_lit 0))), (((nat_lit 33), (nat_lit 12)), (nat_lit 2), (.ofNat (nat_lit 0))), (((nat_lit 33), (nat_lit 13)), (nat_lit 3), (.ofNat (nat_lit 0))), (((nat_lit 33), (nat_lit 14)), (nat_lit 4), (.ofNat (nat_lit 0))), (((nat_lit 33), (nat_lit 15)), (nat_lit 5), (.ofNat (nat_lit 0)))], [([], [((.ofNat (nat_lit 0)), (.ofNat (nat_lit 0))), ((.ofNat (nat_lit 0)), (.ofNat (nat_lit 9))), ((.ofNat (nat_lit 0)), (.ofNat (nat_lit 6))), ((.ofNat (nat_lit 0)), (.ofNat (nat_lit 5))), ((.negSucc (nat_lit 2147483647)), (.ofNat (nat_lit 2147483647))), ((.negSucc (nat_lit 2147483647)), (.ofNat (nat_lit 2147483647))), ((.negSucc (nat_lit 2147483647)), (.ofNat (nat_lit 2147483647))), ((.negSucc (nat_lit 2147483647)), (.ofNat (nat_lit 2147483647)))], [], [(((nat_lit 3), (nat_lit 15)), (nat_lit 5), (.ofNat (nat_lit 0))), (((nat_lit 3), (nat_lit 14)), (nat_lit 4), (.ofNat (nat_lit 0))), (((nat_lit 3), (nat_lit 13)), (nat_lit 3), (.ofNat (nat_lit 0))), (((nat_lit 3), (nat_lit 12)), (nat_lit 2), (.ofNat (nat_lit 0))), (((nat_lit 3), (nat_lit 11)), (nat_lit 1), (.ofNat (nat_lit 0))), (((nat_lit 14), (nat_lit 4)), (nat_lit 6), (.ofNat (nat_lit 0))), (((nat_lit 14), (nat_lit 3)), (nat_lit 7), (.ofNat (nat_lit 0)))], [((nat_lit 3), (nat_lit 11)), ((nat_lit 3), (nat_lit 12)), ((nat_lit 3), (nat_lit 13)), ((nat_lit 3), (nat_lit 14)), ((nat_lit 3), (nat_lit 15)), ((nat_lit 4), (nat_lit 1000000)), ((nat_lit 5), (nat_lit 1000000)), ((nat_lit 6), (nat_lit 1000000)), ((nat_lit 7), (nat_lit 1000000)), ((nat_lit 8), (nat_lit 1000000)), ((nat_lit 9), (nat_lit 1000000)), ((nat_lit 10), (nat_lit 1000000)), ((nat_lit 11), (nat_lit 1000000)), ((nat_lit 12), (nat_lit 1000000)), ((nat_lit 13), (nat_lit 1000000)), ((nat_lit 14), (nat_lit 3)), ((nat_lit 14), (nat_lit 4)), ((nat_lit 15), (nat_lit 1000000)), ((nat_lit 16), (nat_lit 1000000))])])
theorem ct_324 (l : Launch) (cy : Nat → ClassId) (ad wr cr : Nat → Nat) (D : va_G) (hinj : nn_inj ad) : nn_H l cy ad wr cr D (49, 2, cd_324) := nn_hold (fuel := (nat_lit 80)) (sp := []) (HD := []) (HN := []) (mu := (((.ofNat (nat_lit 0)), [], []), ((.ofNat (nat_lit 0)), [], []), (.ofNat (nat_lit 0)), [], [])) (KS := [((nat_lit 50), (nat_lit 0), cd_311), ((nat_lit 50), (nat_lit 0), cd_312), ((nat_lit 50), (nat_lit 0), cd_313), ((nat_lit 50), (nat_lit 0), cd_314), ((nat_lit 50), (nat_lit 0), cd_315), ((nat_lit 50), (nat_lit 0), cd_316), ((nat_lit 50), (nat_lit 0), cd_317), ((nat_lit 51), (nat_lit 0), cd_318), ((nat_lit 51), (nat_lit 0), cd_319), ((nat_lit 51), (nat_lit 0), cd_320), ((nat_lit 52), (nat_lit 1), cd_323)]) (NS := []) hinj nn_MT_code nn_KI6_ok nn_KJ6_ok nn_PF6_ok nn_PS6_ok nn_PM6_ok (List.forall_mem_cons.mpr ⟨ct_311 l cy ad wr cr D hinj, List.forall_mem_cons.mpr ⟨ct_312 l cy ad wr cr D hinj, List.forall_mem_cons.mpr ⟨ct_313 l cy ad wr cr D hinj, List.forall_mem_cons.mpr ⟨ct_314 l cy ad wr cr D hinj, List.forall_mem_cons.mpr ⟨ct_315 l cy ad wr cr D hinj, List.forall_mem_cons.mpr ⟨ct_316 l cy ad wr cr D hinj, List.forall_mem_cons.mpr ⟨ct_317 l cy ad wr cr D hinj, List.forall_mem_cons.mpr ⟨ct_318 l cy ad wr cr D hinj, List.forall_mem_cons.mpr ⟨ct_319 l cy ad wr cr D hinj, List.forall_mem_cons.mpr ⟨ct_320 l cy ad wr cr D hinj, List.forall_mem_cons.mpr ⟨ct_323 l cy ad wr cr D hinj, fun _ h => absurd h List.not_mem_nil⟩⟩⟩⟩⟩⟩⟩⟩⟩⟩⟩) (by decide +kernel)
/-- NameNotes.copyRow 19 4 -/
def cd_325 : ab_CN := ([((nat_lit 2), (nat_lit 19), (.ofNat (nat_lit 0))), ((nat_lit 2), (nat_lit 4), (.ofNat (nat_lit 0)))], [((.ofNat (nat_lit 0)), (.ofNat (nat_lit 0)))], [], [], [([], [((.ofNat (nat_lit 0)), (.ofNat (nat_lit 0)))], [], [], [((nat_lit 4), (nat_lit 1000000))])])
theorem ct_325 (l : Launch) (cy : Nat → ClassId) (ad wr cr : Nat → Nat) (D : va_G) (hinj : nn_inj ad) : nn_H l cy ad wr cr D (50, 0, cd_325) := nn_hold (fuel := (nat_lit 21)) (sp := []) (HD := [(nat_lit 2)]) (HN := []) (mu := (((.ofNat (nat_lit 1000000000000000000000)), [], []), ((.ofNat (nat_lit 0)), [], []), (.ofNat (nat_lit 0)), [], [])) (KS := []) (NS := [((nat_lit 2), ([((nat_lit 2), (nat_lit 0), (nat_lit 1), (.ofNat (nat_lit 0))), ((nat_lit 0), (nat_lit 2), (nat_lit 19), (.ofNat (nat_lit 0))), ((nat_lit 1), (nat_lit 2), (nat_lit 4), (.ofNat (nat_lit 0)))], [], [((.ofNat (nat_lit 0)), (.ofNat (nat_lit 0))), ((.ofNat (nat_lit 0)), (.ofNat (nat_lit 512)))], [], [], [((nat_lit 4), (nat_lit 0)), ((nat_lit 4), (nat_lit 1000000))]), ((.ofNat (nat_lit 512)), [], [(nat_lit 1)]), ((.ofNat (nat_lit 0)), [], []), (.ofNat (nat_lit 0)), [], [])]) hinj nn_MT_code nn_KI1_ok nn_KJ1_ok nn_PF1_ok nn_PS1_ok nn_PM1_ok (fun _ h => absurd h List.not_mem_nil) (by decide +kernel)
/-- NameNotes.copyRow 20 5 -/
def cd_326 : ab_CN := ([((nat_lit 2), (nat_lit 20), (.ofNat (nat_lit 0))), ((nat_lit 2), (nat_lit 5), (.ofNat (nat_lit 0)))], [((.ofNat (nat_lit 0)), (.ofNat (nat_lit 0)))], [], [], [([], [((.ofNat (nat_lit 0)), (.ofNat (nat_lit 0)))], [], [], [((nat_lit 5), (nat_lit 1000000))])])
theorem ct_326 (l : Launch) (cy : Nat → ClassId) (ad wr cr : Nat → Nat) (D : va_G) (hinj : nn_inj ad) : nn_H l cy ad wr cr D (50, 0, cd_326) := nn_hold (fuel := (nat_lit 21)) (sp := []) (HD := [(nat_lit 2)]) (HN := []) (mu := (((.ofNat (nat_lit 1000000000000000000000)), [], []), ((.ofNat (nat_lit 0)), [], []), (.ofNat (nat_lit 0)), [], [])) (KS := []) (NS := [((nat_lit 2), ([((nat_lit 2), (nat_lit 0), (nat_lit 1), (.ofNat (nat_lit 0))), ((nat_lit 0), (nat_lit 2), (nat_lit 20), (.ofNat (nat_lit 0))), ((nat_lit 1), (nat_lit 2), (nat_lit 5), (.ofNat (nat_lit 0)))], [], [((.ofNat (nat_lit 0)), (.ofNat (nat_lit 0))), ((.ofNat (nat_lit 0)), (.ofNat (nat_lit 512)))], [], [], [((nat_lit 5), (nat_lit 0)), ((nat_lit 5), (nat_lit 1000000))]), ((.ofNat (nat_lit 512)), [], [(nat_lit 1)]), ((.ofNat (nat_lit 0)), [], []), (.ofNat (nat_lit 0)), [], [])]) hinj nn_MT_code nn_KI1_ok nn_KJ1_ok nn_PF1_ok nn_PS1_ok nn_PM1_ok (fun _ h => absurd h List.not_mem_nil) (by decide +kernel)
/-- NameNotes.copyRow 21 6 -/
def cd_327 : ab_CN := ([((nat_lit 2), (nat_lit 21), (.ofNat (nat_lit 0))), ((nat_lit 2), (nat_lit 6), (.ofNat (nat_lit 0)))], [((.ofNat (nat_lit 0)), (.ofNat (nat_lit 0)))], [], [], [([], [((.ofNat (nat_lit 0)), (.ofNat (nat_lit 0)))], [], [], [((nat_lit 6), (nat_lit 1000000))])])
theorem ct_327 (l : Launch) (cy : Nat → ClassId) (ad wr cr : Nat → Nat) (D : va_G) (hinj : nn_inj ad) : nn_H l cy ad wr cr D (50, 0, cd_327) := nn_hold (fuel := (nat_lit 21)) (sp := []) (HD := [(nat_lit 2)]) (HN := []) (mu := (((.ofNat (nat_lit 1000000000000000000000)), [], []), ((.ofNat (nat_lit 0)), [], []), (.ofNat (nat_lit 0)), [], [])) (KS := []) (NS := [((nat_lit 2), ([((nat_lit 2), (nat_lit 0), (nat_lit 1), (.ofNat (nat_lit 0))), ((nat_lit 0), (nat_lit 2), (nat_lit 21), (.ofNat (nat_lit 0))), ((nat_lit 1), (nat_lit 2), (nat_lit 6), (.ofNat (nat_lit 0)))], [], [((.ofNat (nat_lit 0)), (.ofNat (nat_lit 0))), ((.ofNat (nat_lit 0)), (.ofNat (nat_lit 9)))], [], [], [((nat_lit 6), (nat_lit 0)), ((nat_lit 6), (nat_lit 1000000))]), ((.ofNat (nat_lit 9)), [], [(nat_lit 1)]), ((.ofNat (nat_lit 0)), [], []), (.ofNat (nat_lit 0)), [], [])]) hinj nn_MT_code nn_KI1_ok nn_KJ1_ok nn_PF1_ok nn_PS1_ok nn_PM1_ok (fun _ h => absurd h List.not_mem_nil) (by decide +kernel)
/-- NameNotes.copyRow 22 7 -/
def cd_328 : ab_CN := ([((nat_lit 2), (nat_lit 22), (.ofNat (nat_lit 0))), ((nat_lit 2), (nat_lit 7), (.ofNat (nat_lit 0)))], [((.ofNat (nat_lit 0)), (.ofNat (nat_lit 0)))], [], [], [([], [((.ofNat (nat_lit 0)), (.ofNat (nat_lit 0)))], [], [], [((nat_lit 7), (nat_lit 1000000))])])
theorem ct_328 (l : Launch) (cy : Nat → ClassId) (ad wr cr : Nat → Nat) (D : va_G) (hinj : nn_inj ad) : nn_H l cy ad wr cr D (50, 0, cd_328) := nn_hold (fuel := (nat_lit 21)) (sp := []) (HD := [(nat_lit 2)]) (HN := []) (mu := (((.ofNat (nat_lit 1000000000000000000000)), [], []), ((.ofNat (nat_lit 0)), [], []), (.ofNat (nat_lit 0)), [], [])) (KS := []) (NS := [((nat_lit 2), ([((nat_lit 2), (nat_lit 0), (nat_lit 1), (.ofNat (nat_lit 0))), ((nat_lit 0), (nat_lit 2), (nat_lit 22), (.ofNat (nat_lit 0))), ((nat_lit 1), (nat_lit 2), (nat_lit 7), (.ofNat (nat_lit 0)))], [], [((.ofNat (nat_lit 0)), (.ofNat (nat_lit 0))), ((.ofNat (nat_lit 0)), (.ofNat (nat_lit 512)))], [], [], [((nat_lit 7), (nat_lit 0)), ((nat_lit 7), (nat_lit 1000000))]), ((.ofNat (nat_lit 512)), [], [(nat_lit 1)]), ((.ofNat (nat_lit 0)), [], []), (.ofNat (nat_lit 0)), [], [])]) hinj nn_MT_code nn_KI1_ok nn_KJ1_ok nn_PF1_ok nn_PS1_ok nn_PM1_ok (fun _ h => absurd h List.not_mem_nil) (by decide +kernel)
/-- NameNotes.copyRow 23 8 -/
def cd_329 : ab_CN := ([((nat_lit 2), (nat_lit 23), (.ofNat (nat_lit 0))), ((nat_lit 2), (nat_lit 8), (.ofNat (nat_lit 0)))], [((.ofNat (nat_lit 0)), (.ofNat (nat_lit 0)))], [], [], [([], [((.ofNat (nat_lit 0)), (.ofNat (nat_lit 0)))], [], [], [((nat_lit 8), (nat_lit 1000000))])])
theorem ct_329 (l : Launch) (cy : Nat → ClassId) (ad wr cr : Nat → Nat) (D : va_G) (hinj : nn_inj ad) : nn_H l cy ad wr cr D (50, 0, cd_329) := nn_hold (fuel := (nat_lit 21)) (sp := []) (HD := [(nat_lit 2)]) (HN := []) (mu := (((.ofNat (nat_lit 1000000000000000000000)), [], []), ((.ofNat (nat_lit 0)), [], []), (.ofNat (nat_lit 0)), [], [])) (KS := []) (NS := [((nat_lit 2), ([((nat_lit 2), (nat_lit 0), (nat_lit 1), (.ofNat (nat_lit 0))), ((nat_lit 0), (nat_lit 2), (nat_lit 23), (.ofNat (nat_lit 0))), ((nat_lit 1), (nat_lit 2), (nat_lit 8), (.ofNat (nat_lit 0)))], [], [((.ofNat (nat_lit 0)), (.ofNat (nat_lit 0))), ((.ofNat (nat_lit 0)), (.ofNat (nat_lit 8)))], [], [], [((nat_lit 8), (nat_lit 0)), ((nat_lit 8), (nat_lit 1000000))]), ((.ofNat (nat_lit 8)), [], [(nat_lit 1)]), ((.ofNat (nat_lit 0)), [], []), (.ofNat (nat_lit 0)), [], [])]) hinj nn_MT_code nn_KI1_ok nn_KJ1_ok nn_PF1_ok nn_PS1_ok nn_PM1_ok (fun _ h => absurd h List.not_mem_nil) (by decide +kernel)
/-- NameNotes.copyRow 24 9 -/
def cd_330 : ab_CN := ([((nat_lit 2), (nat_lit 24), (.ofNat (nat_lit 0))), ((nat_lit 2), (nat_lit 9), (.ofNat (nat_lit 0)))], [((.ofNat (nat_lit 0)), (.ofNat (nat_lit 0)))], [], [], [([], [((.ofNat (nat_lit 0)), (.ofNat (nat_lit 0)))], [], [], [((nat_lit 9), (nat_lit 1000000))])])
theorem ct_330 (l : Launch) (cy : Nat → ClassId) (ad wr cr : Nat → Nat) (D : va_G) (hinj : nn_inj ad) : nn_H l cy ad wr cr D (50, 0, cd_330) := nn_hold (fuel := (nat_lit 21)) (sp := []) (HD := [(nat_lit 2)]) (HN := []) (mu := (((.ofNat (nat_lit 1000000000000000000000)), [], []), ((.ofNat (nat_lit 0)), [], []), (.ofNat (nat_lit 0)), [], [])) (KS := []) (NS := [((nat_lit 2), ([((nat_lit 2), (nat_lit 0), (nat_lit 1), (.ofNat (nat_lit 0))), ((nat_lit 0), (nat_lit 2), (nat_lit 24), (.ofNat (nat_lit 0))), ((nat_lit 1), (nat_lit 2), (nat_lit 9), (.ofNat (nat_lit 0)))], [], [((.ofNat (nat_lit 0)), (.ofNat (nat_lit 0))), ((.ofNat (nat_lit 0)), (.ofNat (nat_lit 64)))], [], [], [((nat_lit 9), (nat_lit 0)), ((nat_lit 9), (nat_lit 1000000))]), ((.ofNat (nat_lit 64)), [], [(nat_lit 1)]), ((.ofNat (nat_lit 0)), [], []), (.ofNat (nat_lit 0)), [], [])]) hinj nn_MT_code nn_KI1_ok nn_KJ1_ok nn_PF1_ok nn_PS1_ok nn_PM1_ok (fun _ h => absurd h List.not_mem_nil) (by decide +kernel)
/-- NameNotes.copyRow 25 10 -/
def cd_331 : ab_CN := ([((nat_lit 2), (nat_lit 25), (.ofNat (nat_lit 0))), ((nat_lit 2), (nat_lit 10), (.ofNat (nat_lit 0)))], [((.ofNat (nat_lit 0)), (.ofNat (nat_lit 0)))], [], [], [([], [((.ofNat (nat_lit 0)), (.ofNat (nat_lit 0)))], [], [], [((nat_lit 10), (nat_lit 1000000))])])
theorem ct_331 (l : Launch) (cy : Nat → ClassId) (ad wr cr : Nat → Nat) (D : va_G) (hinj : nn_inj ad) : nn_H l cy ad wr cr D (50, 0, cd_331) := nn_hold (fuel := (nat_lit 21)) (sp := []) (HD := [(nat_lit 2)]) (HN := []) (mu := (((.ofNat (nat_lit 1000000000000000000000)), [], []), ((.ofNat (nat_lit 0)), [], []), (.ofNat (nat_lit 0)), [], [])) (KS := []) (NS := [((nat_lit 2), ([((nat_lit 2), (nat_lit 0), (nat_lit 1), (.ofNat (nat_lit 0))), ((nat_lit 0), (nat_lit 2), (nat_lit 25), (.ofNat (nat_lit 0))), ((nat_lit 1), (nat_lit 2), (nat_lit 10), (.ofNat (nat_lit 0)))], [], [((.ofNat (nat_lit 0)), (.ofNat (nat_lit 0))), ((.ofNat (nat_lit 0)), (.ofNat (nat_lit 5)))], [], [], [((nat_lit 10), (nat_lit 0)), ((nat_lit 10), (nat_lit 1000000))]), ((.ofNat (nat_lit 5)), [], [(nat_lit 1)]), ((.ofNat (nat_lit 0)), [], []), (.ofNat (nat_lit 0)), [], [])]) hinj nn_MT_code nn_KI1_ok nn_KJ1_ok nn_PF1_ok nn_PS1_ok nn_PM1_ok (fun _ h => absurd h List.not_mem_nil) (by decide +kernel)
/-- NameNotes.copyRow 26 11 -/
def cd_332 : ab_CN := ([((nat_lit 2), (nat_lit 26), (.ofNat (nat_lit 0))), ((nat_lit 2), (nat_lit 11), (.ofNat (nat_lit 0)))], [((.ofNat (nat_lit 0)), (.ofNat (nat_lit 0)))], [], [], [([], [((.ofNat (nat_lit 0)), (.ofNat (nat_lit 0)))], [], [], [((nat_lit 11), (nat_lit 1000000))])])
theorem ct_332 (l : Launch) (cy : Nat → ClassId) (ad wr cr : Nat → Nat) (D : va_G) (hinj : nn_inj ad) : nn_H l cy ad wr cr D (51, 0, cd_332) := nn_hold (fuel := (nat_lit 21)) (sp := []) (HD := [(nat_lit 2)]) (HN := []) (mu := (((.ofNat (nat_lit 1000000000000000000000)), [], []), ((.ofNat (nat_lit 0)), [], []), (.ofNat (nat_lit 0)), [], [])) (KS := []) (NS := [((nat_lit 2), ([((nat_lit 2), (nat_lit 0), (nat_lit 1), (.ofNat (nat_lit 0))), ((nat_lit 0), (nat_lit 2), (nat_lit 26), (.ofNat (nat_lit 0))), ((nat_lit 1), (nat_lit 2), (nat_lit 11), (.ofNat (nat_lit 0)))], [], [((.ofNat (nat_lit 0)), (.ofNat (nat_lit 0))), ((.ofNat (nat_lit 0)), (.ofNat (nat_lit 9)))], [], [], [((nat_lit 11), (nat_lit 0)), ((nat_lit 11), (nat_lit 1000000))]), ((.ofNat (nat_lit 9)), [], [(nat_lit 1)]), ((.ofNat (nat_lit 0)), [], []), (.ofNat (nat_lit 0)), [], [])]) hinj nn_MT_code nn_KI1_ok nn_KJ1_ok nn_PF1_ok nn_PS1_ok nn_PM1_ok (fun _ h => absurd h List.not_mem_nil) (by decide +kernel)
/-- NameNotes.copyRow 27 12 -/
def cd_333 : ab_CN := ([((nat_lit 2), (nat_lit 27), (.ofNat (nat_lit 0))), ((nat_lit 2), (nat_lit 12), (.ofNat (nat_lit 0)))], [((.ofNat (nat_lit 0)), (.ofNat (nat_lit 0)))], [], [], [([], [((.ofNat (nat_lit 0)), (.ofNat (nat_lit 0)))], [], [], [((nat_lit 12), (nat_lit 1000000))])])
theorem ct_333 (l : Launch) (cy : Nat → ClassId) (ad wr cr : Nat → Nat) (D : va_G) (hinj : nn_inj ad) : nn_H l cy ad wr cr D (51, 0, cd_333) := nn_hold (fuel := (nat_lit 21)) (sp := []) (HD := [(nat_lit 2)]) (HN := []) (mu := (((.ofNat (nat_lit 1000000000000000000000)), [], []), ((.ofNat (nat_lit 0)), [], []), (.ofNat (nat_lit 0)), [], [])) (KS := []) (NS := [((nat_lit 2), ([((nat_lit 2), (nat_lit 0), (nat_lit 1), (.ofNat (nat_lit 0))), ((nat_lit 0), (nat_lit 2), (nat_lit 27), (.ofNat (nat_lit 0))), ((nat_lit 1), (nat_lit 2), (nat_lit 12), (.ofNat (nat_lit 0)))], [], [((.ofNat (nat_lit 0)), (.ofNat (nat_lit 0))), ((.ofNat (nat_lit 0)), (.ofNat (nat_lit 8)))], [], [], [((nat_lit 12), (nat_lit 0)), ((nat_lit 12), (nat_lit 1000000))]), ((.ofNat (nat_lit 8)), [], [(nat_lit 1)]), ((.ofNat (nat_lit 0)), [], []), (.ofNat (nat_lit 0)), [], [])]) hinj nn_MT_code nn_KI1_ok nn_KJ1_ok nn_PF1_ok nn_PS1_ok nn_PM1_ok (fun _ h => absurd h List.not_mem_nil) (by decide +kernel)
/-- NameNotes.copyRow 28 13 -/
def cd_334 : ab_CN := ([((nat_lit 2), (nat_lit 28), (.ofNat (nat_lit 0))), ((nat_lit 2), (nat_lit 13), (.ofNat (nat_lit 0)))], [((.ofNat (nat_lit 0)), (.ofNat (nat_lit 0)))], [], [], [([], [((.ofNat (nat_lit 0)), (.ofNat (nat_lit 0)))], [], [], [((nat_lit 13), (nat_lit 1000000))])])
theorem ct_334 (l : Launch) (cy : Nat → ClassId) (ad wr cr : Nat → Nat) (D : va_G) (hinj : nn_inj ad) : nn_H l cy ad wr cr D (51, 0, cd_334) := nn_hold (fuel := (nat_lit 21)) (sp := []) (HD := [(nat_lit 2)]) (HN := []) (mu := (((.ofNat (nat_lit 1000000000000000000000)), [], []), ((.ofNat (nat_lit 0)), [], []), (.ofNat (nat_lit 0)), [], [])) (KS := []) (NS := [((nat_lit 2), ([((nat_lit 2), (nat_lit 0), (nat_lit 1), (.ofNat (nat_lit 0))), ((nat_lit 0), (nat_lit 2), (nat_lit 28), (.ofNat (nat_lit 0))), ((nat_lit 1), (nat_lit 2), (nat_lit 13), (.ofNat (nat_lit 0)))], [], [((.ofNat (nat_lit 0)), (.ofNat (nat_lit 0))), ((.ofNat (nat_lit 0)), (.ofNat (nat_lit 5)))], [], [], [((nat_lit 13), (nat_lit 0)), ((nat_lit 13), (nat_lit 1000000))]), ((.ofNat (nat_lit 5)), [], [(nat_lit 1)]), ((.ofNat (nat_lit 0)), [], []), (.ofNat (nat_lit 0)), [], [])]) hinj nn_MT_code nn_KI1_ok nn_KJ1_ok nn_PF1_ok nn_PS1_ok nn_PM1_ok (fun _ h => absurd h List.not_mem_nil) (by decide +kernel)
/-- NameNotes.copyRow 30 15 -/
def cd_335 : ab_CN := ([((nat_lit 2), (nat_lit 30), (.ofNat (nat_lit 0))), ((nat_lit 2), (nat_lit 15), (.ofNat (nat_lit 0)))], [((.ofNat (nat_lit 0)), (.ofNat (nat_lit 0)))], [], [], [([], [((.ofNat (nat_lit 0)), (.ofNat (nat_lit 0)))], [], [], [((nat_lit 15), (nat_lit 1000000))])])
theorem ct_335 (l : Launch) (cy : Nat → ClassId) (ad wr cr : Nat → Nat) (D : va_G) (hinj : nn_inj ad) : nn_H l cy ad wr cr D (50, 0, cd_335) := nn_hold (fuel := (nat_lit 21)) (sp := []) (HD := [(nat_lit 2)]) (HN := []) (mu := (((.ofNat (nat_lit 1000000000000000000000)), [], []), ((.ofNat (nat_lit 0)), [], []), (.ofNat (nat_lit 0)), [], [])) (KS := []) (NS := [((nat_lit 2), ([((nat_lit 2), (nat_lit 0), (nat_lit 1), (.ofNat (nat_lit 0))), ((nat_lit 0), (nat_lit 2), (nat_lit 30), (.ofNat (nat_lit 0))), ((nat_lit 1), (nat_lit 2), (nat_lit 15), (.ofNat (nat_lit 0)))], [], [((.ofNat (nat_lit 0)), (.ofNat (nat_lit 0))), ((.ofNat (nat_lit 0)), (.ofNat (nat_lit 64)))], [], [], [((nat_lit 15), (nat_lit 0)), ((nat_lit 15), (nat_lit 1000000))]), ((.ofNat (nat_lit 64)), [], [(nat_lit 1)]), ((.ofNat (nat_lit 0)), [], []), (.ofNat (nat_lit 0)), [], [])]) hinj nn_MT_code nn_KI1_ok nn_KJ1_ok nn_PF1_ok nn_PS1_ok nn_PM1_ok (fun _ h => absurd h List.not_mem_nil) (by decide +kernel)
/-- NameNotes.copyRow 31 16 -/
def cd_336 : ab_CN := ([((nat_lit 2), (nat_lit 31), (.ofNat (nat_lit 0))), ((nat_lit 2), (nat_lit 16), (.ofNat (nat_lit 0)))], [((.ofNat (nat_lit 0)), (.ofNat (nat_lit 0)))], [], [], [([], [((.ofNat (nat_lit 0)), (.ofNat (nat_lit 0)))], [], [], [((nat_lit 16), (nat_lit 1000000))])])
theorem ct_336 (l : Launch) (cy : Nat → ClassId) (ad wr cr : Nat → Nat) (D : va_G) (hinj : nn_inj ad) : nn_H l cy ad wr cr D (50, 0, cd_336) := nn_hold (fuel := (nat_lit 21)) (sp := []) (HD := [(nat_lit 2)]) (HN := []) (mu := (((.ofNat (nat_lit 1000000000000000000000)), [], []), ((.ofNat (nat_lit 0)), [], []), (.ofNat (nat_lit 0)), [], [])) (KS := []) (NS := [((nat_lit 2), ([((nat_lit 2), (nat_lit 0), (nat_lit 1), (.ofNat (nat_lit 0))), ((nat_lit 0), (nat_lit 2), (nat_lit 31), (.ofNat (nat_lit 0))), ((nat_lit 1), (nat_lit 2), (nat_lit 16), (.ofNat (nat_lit 0)))], [], [((.ofNat (nat_lit 0)), (.ofNat (nat_lit 0))), ((.ofNat (nat_lit 0)), (.ofNat (nat_lit 64)))], [], [], [((nat_lit 16), (nat_lit 0)), ((nat_lit 16), (nat_lit 1000000))]), ((.ofNat (nat_lit 64)), [], [(nat_lit 1)]), ((.ofNat (nat_lit 0)), [], []), (.ofNat (nat_lit 0)), [], [])]) hinj nn_MT_code nn_KI1_ok nn_KJ1_ok nn_PF1_ok nn_PS1_ok nn_PM1_ok (fun _ h => absurd h List.not_mem_nil) (by decide +kernel)
/-- NameNotes_Sentence.copy 14 29 -/
def cd_337 : ab_CN := ([((nat_lit 2), (nat_lit 14), (.ofNat (nat_lit 0))), ((nat_lit 2), (nat_lit 29), (.ofNat (nat_lit 0)))], [((.ofNat (nat_lit 0)), (.ofNat (nat_lit 0))), ((.negSucc (nat_lit 2147483647)), (.ofNat (nat_lit 2147483647))), ((.negSucc (nat_lit 2147483647)), (.ofNat (nat_lit 2147483647)))], [], [(((nat_lit 29), (nat_lit 3)), (nat_lit 1), (.ofNat (nat_lit 0))), (((nat_lit 29), (nat_lit 4)), (nat_lit 2), (.ofNat (nat_lit 0)))], [([], [((.ofNat (nat_lit 0)), (.ofNat (nat_lit 0))), ((.negSucc (nat_lit 2147483647)), (.ofNat (nat_lit 2147483647))), ((.negSucc (nat_lit 2147483647)), (.ofNat (nat_lit 2147483647)))], [], [(((nat_lit 14), (nat_lit 4)), (nat_lit 2), (.ofNat (nat_lit 0))), (((nat_lit 14), (nat_lit 3)), (nat_lit 1), (.ofNat (nat_lit 0)))], [((nat_lit 14), (nat_lit 3)), ((nat_lit 14), (nat_lit 4)), ((nat_lit 15), (nat_lit 1000000)), ((nat_lit 16), (nat_lit 1000000))])])
theorem ct_337 (l : Launch) (cy : Nat → ClassId) (ad wr cr : Nat → Nat) (D : va_G) (hinj : nn_inj ad) : nn_H l cy ad wr cr D (52, 1, cd_337) := nn_hold (fuel := (nat_lit 23)) (sp := []) (HD := []) (HN := []) (mu := (((.ofNat (nat_lit 0)), [], []), ((.ofNat (nat_lit 0)), [], []), (.ofNat (nat_lit 0)), [], [])) (KS := [((nat_lit 50), (nat_lit 0), cd_335), ((nat_lit 50), (nat_lit 0), cd_336)]) (NS := []) hinj nn_MT_code nn_KI5_ok nn_KJ5_ok nn_PF5_ok nn_PS5_ok nn_PM5_ok (List.forall_mem_cons.mpr ⟨ct_335 l cy ad wr cr D hinj, List.forall_mem_cons.mpr ⟨ct_336 l cy ad wr cr D hinj, fun _ h => absurd h List.not_mem_nil⟩⟩) (by decide +kernel)
/-- NameNotes_Studio.copy 3 18 -/
def cd_338 : ab_CN := ([((nat_lit 2), (nat_lit 3), (.ofNat (nat_lit 0))), ((nat_lit 2), (nat_lit 18), (.ofNat (nat_lit 0)))], [((.ofNat (nat_lit 0)), (.ofNat (nat_lit 0))), ((.ofNat (nat_lit 0)), (.ofNat (nat_lit 9))), ((.ofNat (nat_lit 0)), (.ofNat (nat_lit 6))), ((.ofNat (nat_lit 0)), (.ofNat (nat_lit 5))), ((.negSucc (nat_lit 2147483647)), (.ofNat (nat_lit 2147483647))), ((.negSucc (nat_lit 2147483647)), (.ofNat (nat_lit 2147483647)))], [], [(((nat_lit 18), (nat_lit 11)), (nat_lit 1), (.ofNat (nat_lit 0))), (((nat_lit 18), (nat_lit 12)), (nat_lit 2), (.ofNat (nat_lit 0))), (((nat_lit 18), (nat_lit 13)), (nat_lit 3), (.ofNat (nat_lit 0))), (((nat_lit 18), (nat_lit 14)), (nat_lit 4), (.ofNat (nat_lit 0))), (((nat_lit 18), (nat_lit 15)), (nat_lit 5), (.ofNat (nat_lit 0)))], [([], [((.ofNat (nat_lit 0)), (.ofNat (nat_lit 0))), ((.ofNat (nat_lit 0)), (.ofNat (nat_lit 9))), ((.ofNat (nat_lit 0)), (.ofNat (nat_lit 6))), ((.ofNat (nat_lit 0)), (.ofNat (nat_lit 5))), ((.negSucc (nat_lit 2147483647)), (.ofNat (nat_lit 2147483647))), ((.negSucc (nat_lit 2147483647)), (.ofNat (nat_lit 2147483647))), ((.negSucc (nat_lit 2147483647)), (.ofNat (nat_lit 2147483647))), ((.negSucc (nat_lit 2147483647)), (.ofNat (nat_lit 2147483647)))], [], [(((nat_lit 3), (nat_lit 15)), (nat_lit 5), (.ofNat (nat_lit 0))), (((nat_lit 3), (nat_lit 14)), (nat_lit 4), (.ofNat (nat_lit 0))), (((nat_lit 3), (nat_lit 13)), (nat_lit 3), (.ofNat (nat_lit 0))), (((nat_lit 3), (nat_lit 12)), (nat_lit 2), (.ofNat (nat_lit 0))), (((nat_lit 3), (nat_lit 11)), (nat_lit 1), (.ofNat (nat_lit 0))), (((nat_lit 14), (nat_lit 4)), (nat_lit 6), (.ofNat (nat_lit 0))), (((nat_lit 14), (nat_lit 3)), (nat_lit 7), (.ofNat (nat_lit 0)))], [((nat_lit 3), (nat_lit 11)), ((nat_lit 3), (nat_lit 12)), ((nat_lit 3), (nat_lit 13)), ((nat_lit 3), (nat_lit 14)), ((nat_lit 3), (nat_lit 15)), ((nat_lit 4), (nat_lit 1000000)), ((nat_lit 5), (nat_lit 1000000)), ((nat_lit 6), (nat_lit 1000000)), ((nat_lit 7), (nat_lit 1000000)), ((nat_lit 8), (nat_lit 1000000)), ((nat_lit 9), (nat_lit 1000000)), ((nat_lit 10), (nat_lit 1000000)), ((nat_lit 11), (nat_lit 1000000)), ((nat_lit 12), (nat_lit 1000000)), ((nat_lit 13), (nat_lit 1000000)), ((nat_lit 14), (nat_lit 3)), ((nat_lit 14), (nat_lit 4)), ((nat_lit 15), (nat_lit 1000000)), ((nat_lit 16), (nat_lit 1000000))])])
theorem ct_338 (l : Launch) (cy : Nat → ClassId) (ad wr cr : Nat → Nat) (D : va_G) (hinj : nn_inj ad) : nn_H l cy ad wr cr D (49, 2, cd_338) := nn_hold (fuel := (nat_lit 80)) (sp := []) (HD := []) (HN := []) (mu := (((.ofNat (nat_lit 0)), [], []), ((.ofNat (nat_lit 0)), [], []), (.ofNat (nat_lit 0)), [], [])) (KS := [((nat_lit 50), (nat_lit 0), cd_325), ((nat_lit 50), (nat_lit 0), cd_326), ((nat_lit 50), (nat_lit 0), cd_327), ((nat_lit 50), (nat_lit 0), cd_328), ((nat_lit 50), (nat_lit 0), cd_329), ((nat_lit 50), (nat_lit 0), cd_330), ((nat_lit 50), (nat_lit 0), cd_331), ((nat_lit 51), (nat_lit 0), cd_332), ((nat_lit 51), (nat_lit 0), cd_333), ((nat_lit 51), (nat_lit 0), cd_334), ((nat_lit 52), (nat_lit 1), cd_337)]) (NS := []) hinj nn_MT_code nn_KI6_ok nn_KJ6_ok nn_PF6_ok nn_PS6_ok nn_PM6_ok (List.forall_mem_cons.mpr ⟨ct_325 l cy ad wr cr D hinj, List.forall_mem_cons.mpr ⟨ct_326 l cy ad wr cr D hinj, List.forall_mem_cons.mpr ⟨ct_327 l cy ad wr cr D hinj, List.forall_mem_cons.mpr ⟨ct_328 l cy ad wr cr D hinj, List.forall_mem_cons.mpr ⟨ct_329 l cy ad wr cr D hinj, List.forall_mem_cons.mpr ⟨ct_330 l cy ad wr cr D hinj, List.forall_mem_cons.mpr ⟨ct_331 l cy ad wr cr D hinj, List.forall_mem_cons.mpr ⟨ct_332 l cy ad wr cr D hinj, List.forall_mem_cons.mpr ⟨ct_333 l cy ad wr cr D hinj, List.forall_mem_cons.mpr ⟨ct_334 l cy ad wr cr D hinj, List.forall_mem_cons.mpr ⟨ct_337 l cy ad wr cr D hinj, fun _ h => absurd h List.not_mem_nil⟩⟩⟩⟩⟩⟩⟩⟩⟩⟩⟩) (by decide +kernel)
/-- NameNotes.restore 0 -/
def cd_339 : ab_CN := ([((nat_lit 2), (nat_lit 0), (.ofNat (nat_lit 0))), ((nat_lit 0), (nat_lit 1), (.ofNat (nat_lit 0)))], [((.ofNat (nat_lit 0)), (.ofNat (nat_lit 0))), ((.negSucc (nat_lit 2147483647)), (.ofNat (nat_lit 2147483647))), ((.ofNat (nat_lit 0)), (.ofNat (nat_lit 1))), ((.ofNat (nat_lit 0)), (.ofNat (nat_lit 1)))], [], [(((nat_lit 18), (nat_lit 16)), (nat_lit 2), (.ofNat (nat_lit 0))), (((nat_lit 33), (nat_lit 16)), (nat_lit 3), (.ofNat (nat_lit 0)))], [([((nat_lit 0), (nat_lit 0), (.ofNat (nat_lit 0)))], [((.ofNat (nat_lit 0)), (.ofNat (nat_lit 0))), ((.negSucc (nat_lit 2147483647)), (.ofNat (nat_lit 2147483647))), ((.ofNat (nat_lit 0)), (.ofNat (nat_lit 1))), ((.ofNat (nat_lit 0)), (.ofNat (nat_lit 1)))], [], [], []), ([((nat_lit 0), (nat_lit 0), (.ofNat (nat_lit 1)))], [((.ofNat (nat_lit 0)), (.ofNat (nat_lit 0))), ((.ofNat (nat_lit 0)), (.ofNat (nat_lit 1))), ((.ofNat (nat_lit 0)), (.ofNat (nat_lit 1))), ((.ofNat (nat_lit 0)), (.ofNat (nat_lit 1))), ((.negSucc (nat_lit 2147483647)), (.ofNat (nat_lit 2147483647))), ((.negSucc (nat_lit 2147483647)), (.ofNat (nat_lit 2147483647))), ((.ofNat (nat_lit 0)), (.ofNat (nat_lit 5))), ((.ofNat (nat_lit 0)), (.ofNat (nat_lit 6))), ((.ofNat (nat_lit 0)), (.ofNat (nat_lit 9))), ((.negSucc (nat_lit 2147483647)), (.ofNat (nat_lit 2147483647))), ((.negSucc (nat_lit 2147483647)), (.ofNat (nat_lit 2147483647)))], [], [(((nat_lit 85), (nat_lit 1)), (nat_lit 0), (.ofNat (nat_lit 0))), (((nat_lit 3), (nat_lit 15)), (nat_lit 4), (.ofNat (nat_lit 0))), (((nat_lit 3), (nat_lit 14)), (nat_lit 5), (.ofNat (nat_lit 0))), (((nat_lit 3), (nat_lit 13)), (nat_lit 6), (.ofNat (nat_lit 0))), (((nat_lit 3), (nat_lit 12)), (nat_lit 7), (.ofNat (nat_lit 0))), (((nat_lit 3), (nat_lit 11)), (nat_lit 8), (.ofNat (nat_lit 0))), (((nat_lit 14), (nat_lit 4)), (nat_lit 9), (.ofNat (nat_lit 0))), (((nat_lit 14), (nat_lit 3)), (nat_lit 10), (.ofNat (nat_lit 0)))], [((nat_lit 3), (nat_lit 11)), ((nat_lit 3), (nat_lit 12)), ((nat_lit 3), (nat_lit 13)), ((nat_lit 3), (nat_lit 14)), ((nat_lit 3), (nat_lit 15)), ((nat_lit 4), (nat_lit 1000000)), ((nat_lit 5), (nat_lit 1000000)), ((nat_lit 6), (nat_lit 1000000)), ((nat_lit 7), (nat_lit 1000000)), ((nat_lit 8), (nat_lit 1000000)), ((nat_lit 9), (nat_lit 1000000)), ((nat_lit 10), (nat_lit 1000000)), ((nat_lit 11), (nat_lit 1000000)), ((nat_lit 12), (nat_lit 1000000)), ((nat_lit 13), (nat_lit 1000000)), ((nat_lit 14), (nat_lit 3)), ((nat_lit 14), (nat_lit 4)), ((nat_lit 15), (nat_lit 1000000)), ((nat_lit 16), (nat_lit 1000000)), ((nat_lit 85), (nat_lit 1))])])
theorem ct_339 (l : Launch) (cy : Nat → ClassId) (ad wr cr : Nat → Nat) (D : va_G) (hinj : nn_inj ad) : nn_H l cy ad wr cr D (186, 3, cd_339) := nn_hold (fuel := (nat_lit 23)) (sp := []) (HD := []) (HN := []) (mu := (((.ofNat (nat_lit 0)), [], []), ((.ofNat (nat_lit 0)), [], []), (.ofNat (nat_lit 0)), [], [])) (KS := [((nat_lit 185), (nat_lit 0), cd_281), ((nat_lit 49), (nat_lit 2), cd_324), ((nat_lit 49), (nat_lit 2), cd_338)]) (NS := []) hinj nn_MT_code nn_KI1_ok nn_KJ1_ok nn_PF1_ok nn_PS1_ok nn_PM1_ok (List.forall_mem_cons.mpr ⟨ct_281 l cy ad wr cr D hinj, List.forall_mem_cons.mpr ⟨ct_324 l cy ad wr cr D hinj, List.forall_mem_cons.mpr ⟨ct_338 l cy ad wr cr D hinj, fun _ h => absurd h List.not_mem_nil⟩⟩⟩) (by decide +kernel)
/-- NameNotes.count 0 -/
def cd_340 : ab_CN := ([((nat_lit 2), (nat_lit 0), (.ofNat (nat_lit 0))), ((nat_lit 0), (nat_lit 1), (.ofNat (nat_lit 0)))], [((.ofNat (nat_lit 0)), (.ofNat (nat_lit 0))), ((.negSucc (nat_lit 2147483647)), (.ofNat (nat_lit 2147483647))), ((.negSucc (nat_lit 2147483647)), (.ofNat (nat_lit 2147483647))), ((.ofNat (nat_lit 0)), (.ofNat (nat_lit 9))), ((.ofNat (nat_lit 0)), (.ofNat (nat_lit 6))), ((.ofNat (nat_lit 0)), (.ofNat (nat_lit 5))), ((.negSucc (nat_lit 2147483647)), (.ofNat (nat_lit 2147483647)))], [], [(((nat_lit 1), (nat_lit 1)), (nat_lit 2), (.ofNat (nat_lit 0))), (((nat_lit 3), (nat_lit 11)), (nat_lit 3), (.ofNat (nat_lit 0))), (((nat_lit 3), (nat_lit 12)), (nat_lit 4), (.ofNat (nat_lit 0))), (((nat_lit 3), (nat_lit 13)), (nat_lit 5), (.ofNat (nat_lit 0))), (((nat_lit 3), (nat_lit 14)), (nat_lit 6), (.ofNat (nat_lit 0)))], [([((nat_lit 0), (nat_lit 2), (.ofNat (nat_lit 0)))], [((.ofNat (nat_lit 0)), (.ofNat (nat_lit 0))), ((.ofNat (nat_lit 4)), (.ofNat (nat_lit 4))), ((.negSucc (nat_lit 2147483647)), (.ofNat (nat_lit 2147483647))), ((.ofNat (nat_lit 0)), (.ofNat (nat_lit 9))), ((.ofNat (nat_lit 0)), (.ofNat (nat_lit 6))), ((.ofNat (nat_lit 0)), (.ofNat (nat_lit 5))), ((.negSucc (nat_lit 2147483647)), (.ofNat (nat_lit 2147483647)))], [], [], []), ([((nat_lit 0), (nat_lit 6), (.ofNat (nat_lit 0)))], [((.ofNat (nat_lit 0)), (.ofNat (nat_lit 0))), ((.ofNat (nat_lit 3)), (.ofNat (nat_lit 3))), ((.negSucc (nat_lit 2147483647)), (.ofNat (nat_lit 2147483647))), ((.ofNat (nat_lit 0)), (.ofNat (nat_lit 9))), ((.ofNat (nat_lit 0)), (.ofNat (nat_lit 6))), ((.ofNat (nat_lit 0)), (.ofNat (nat_lit 5))), ((.negSucc (nat_lit 2147483647)), (.ofNat (nat_lit 2147483647)))], [], [], []), ([((nat_lit 0), (nat_lit 5), (.ofNat (nat_lit 0)))], [((.ofNat (nat_lit 0)), (.ofNat (nat_lit 0))), ((.ofNat (nat_lit 2)), (.ofNat (nat_lit 2))), ((.negSucc (nat_lit 2147483647)), (.ofNat (nat_lit 2147483647))), ((.ofNat (nat_lit 0)), (.ofNat (nat_lit 9))), ((.ofNat (nat_lit 0)), (.ofNat (nat_lit 6))), ((.ofNat (nat_lit 0)), (.ofNat (nat_lit 5))), ((.negSucc (nat_lit 2147483647)), (.ofNat (nat_lit 2147483647)))], [], [], []), ([((nat_lit 0), (nat_lit 4), (.ofNat (nat_lit 0)))], [((.ofNat (nat_lit 0)), (.ofNat (nat_lit 0))), ((.ofNat (nat_lit 1)), (.ofNat (nat_lit 1))), ((.negSucc (nat_lit 2147483647)), (.ofNat (nat_lit 2147483647))), ((.ofNat (nat_lit 0)), (.ofNat (nat_lit 9))), ((.ofNat (nat_lit 0)), (.ofNat (nat_lit 6))), ((.ofNat (nat_lit 0)), (.ofNat (nat_lit 5))), ((.negSucc (nat_lit 2147483647)), (.ofNat (nat_lit 2147483647)))], [], [], []), ([((nat_lit 0), (nat_lit 3), (.ofNat (nat_lit 0)))], [((.ofNat (nat_lit 0)), (.ofNat (nat_lit 0))), ((.ofNat (nat_lit 0)), (.ofNat (nat_lit 0))), ((.negSucc (nat_lit 2147483647)), (.ofNat (nat_lit 2147483647))), ((.ofNat (nat_lit 0)), (.ofNat (nat_lit 9))), ((.ofNat (nat_lit 0)), (.ofNat (nat_lit 6))), ((.ofNat (nat_lit 0)), (.ofNat (nat_lit 5))), ((.negSucc (nat_lit 2147483647)), (.ofNat (nat_lit 2147483647)))], [], [], []), ([((nat_lit 0), (nat_lit 0), (.negSucc (nat_lit 0)))], [((.ofNat (nat_lit 0)), (.ofNat (nat_lit 0))), ((.negSucc (nat_lit 2147483647)), (.ofNat (nat_lit 2147483647))), ((.negSucc (nat_lit 2147483647)), (.ofNat (nat_lit 2147483647))), ((.ofNat (nat_lit 0)), (.ofNat (nat_lit 9))), ((.ofNat (nat_lit 0)), (.ofNat (nat_lit 6))), ((.ofNat (nat_lit 0)), (.ofNat (nat_lit 5))), ((.negSucc (nat_lit 2147483647)), (.ofNat (nat_lit 2147483647)))], [], [], [])])
theorem ct_340 (l : Launch) (cy : Nat → ClassId) (ad wr cr : Nat → Nat) (D : va_G) (hinj : nn_inj ad) : nn_H l cy ad wr cr D (187, 0, cd_340) := nn_hold (fuel := (nat_lit 10)) (sp := []) (HD := []) (HN := []) (mu := (((.ofNat (nat_lit 0)), [], []), ((.ofNat (nat_lit 0)), [], []), (.ofNat (nat_lit 0)), [], [])) (KS := []) (NS := []) hinj nn_MT_code nn_KI1_ok nn_KJ1_ok nn_PF1_ok nn_PS1_ok nn_PM1_ok (fun _ h => absurd h List.not_mem_nil) (by decide +kernel)
/-- NameNotes.rightChance 0 -/
def cd_341 : ab_CN := ([((nat_lit 2), (nat_lit 0), (.ofNat (nat_lit 0))), ((nat_lit 0), (nat_lit 1), (.ofNat (nat_lit 0))), ((nat_lit 0), (nat_lit 2), (.ofNat (nat_lit 0))), ((nat_lit 0), (nat_lit 3), (.ofNat (nat_lit 0))), ((nat_lit 0), (nat_lit 4), (.ofNat (nat_lit 0)))], [((.ofNat (nat_lit 0)), (.ofNat (nat_lit 0))), ((.negSucc (nat_lit 2147483647)), (.ofNat (nat_lit 2147483647))), ((.negSucc (nat_lit 2147483647)), (.ofNat (nat_lit 2147483647))), ((.negSucc (nat_lit 2147483647)), (.ofNat (nat_lit 2147483647))), ((.negSucc (nat_lit 2147483647)), (.ofNat (nat_lit 2147483647)))], [], [], [([((nat_lit 1), (nat_lit 5), (.ofNat (nat_lit 0)))], [((.ofNat (nat_lit 0)), (.ofNat (nat_lit 0))), ((.negSucc (nat_lit 2147483647)), (.ofNat (nat_lit 2147483647))), ((.negSucc (nat_lit 2147483647)), (.ofNat (nat_lit 2147483647))), ((.negSucc (nat_lit 2147483647)), (.ofNat (nat_lit 2147483647))), ((.negSucc (nat_lit 2147483647)), (.ofNat (nat_lit 2147483647))), ((.negSucc (nat_lit 9223372036854775807)), (.ofNat (nat_lit 9223372036854775807))), ((.ofNat (nat_lit 0)), (.ofNat (nat_lit 511)))], [], [(((nat_lit 73), (nat_lit 3)), (nat_lit 6), (.ofNat (nat_lit 0)))], [((nat_lit 73), (nat_lit 3)), ((nat_lit 74), (nat_lit 1000000)), ((nat_lit 75), (nat_lit 1000000)), ((nat_lit 76), (nat_lit 1000000))])])
theorem ct_341 (l : Launch) (cy : Nat → ClassId) (ad wr cr : Nat → Nat) (D : va_G) (hinj : nn_inj ad) : nn_H l cy ad wr cr D (190, 4, cd_341) := nn_hold (fuel := (nat_lit 26)) (sp := []) (HD := []) (HN := []) (mu := (((.ofNat (nat_lit 0)), [], []), ((.ofNat (nat_lit 0)), [], []), (.ofNat (nat_lit 0)), [], [])) (KS := [((nat_lit 64), (nat_lit 1), cd_26), ((nat_lit 191), (nat_lit 2), cd_112), ((nat_lit 83), (nat_lit 3), cd_173), ((nat_lit 84), (nat_lit 2), cd_174)]) (NS := []) hinj nn_MT_code nn_KI1_ok nn_KJ1_ok nn_PF1_ok nn_PS1_ok nn_PM1_ok (List.forall_mem_cons.mpr ⟨ct_26 l cy ad wr cr D hinj, List.forall_mem_cons.mpr ⟨ct_112 l cy ad wr cr D hinj, List.forall_mem_cons.mpr ⟨ct_173 l cy ad wr cr D hinj, List.forall_mem_cons.mpr ⟨ct_174 l cy ad wr cr D hinj, fun _ h => absurd h List.not_mem_nil⟩⟩⟩⟩) (by decide +kernel)
/-- NameNotes.at 13 -/
def cd_342 : ab_CN := ([((nat_lit 2), (nat_lit 13), (.ofNat (nat_lit 0))), ((nat_lit 0), (nat_lit 1), (.ofNat (nat_lit 0)))], [((.ofNat (nat_lit 0)), (.ofNat (nat_lit 0))), ((.negSucc (nat_lit 2147483647)), (.ofNat (nat_lit 2147483647)))], [], [], [([((nat_lit 1), (nat_lit 2), (.ofNat (nat_lit 0)))], [((.ofNat (nat_lit 0)), (.ofNat (nat_lit 0))), ((.negSucc (nat_lit 2147483647)), (.ofNat (nat_lit 2147483647))), ((.negSucc (nat_lit 9223372036854775807)), (.ofNat (nat_lit 9223372036854775807)))], [], [], [])])
theorem ct_342 (l : Launch) (cy : Nat → ClassId) (ad wr cr : Nat → Nat) (D : va_G) (hinj : nn_inj ad) : nn_H l cy ad wr cr D (87, 0, cd_342) := nn_hold (fuel := (nat_lit 17)) (sp := []) (HD := []) (HN := []) (mu := (((.ofNat (nat_lit 0)), [], []), ((.ofNat (nat_lit 0)), [], []), (.ofNat (nat_lit 0)), [], [])) (KS := []) (NS := []) hinj nn_MT_code nn_KI1_ok nn_KJ1_ok nn_PF1_ok nn_PS1_ok nn_PM1_ok (fun _ h => absurd h List.not_mem_nil) (by decide +kernel)
/-- NameNotes.addSpeaker 0 -/
def cd_343 : ab_CN := ([((nat_lit 2), (nat_lit 0), (.ofNat (nat_lit 0))), ((nat_lit 0), (nat_lit 1), (.ofNat (nat_lit 0)))], [((.ofNat (nat_lit 0)), (.ofNat (nat_lit 0))), ((.negSucc (nat_lit 2147483647)), (.ofNat (nat_lit 2147483647)))], [], [], [([], [((.ofNat (nat_lit 0)), (.ofNat (nat_lit 0))), ((.negSucc (nat_lit 2147483647)), (.ofNat (nat_lit 2147483647))), ((.negSucc (nat_lit 2147483647)), (.ofNat (nat_lit 2147483647)))], [], [(((nat_lit 87), (nat_lit 1)), (nat_lit 2), (.ofNat (nat_lit 0)))], [((nat_lit 87), (nat_lit 1)), ((nat_lit 88), (nat_lit 1000000))])])
theorem ct_343 (l : Launch) (cy : Nat → ClassId) (ad wr cr : Nat → Nat) (D : va_G) (hinj : nn_inj ad) : nn_H l cy ad wr cr D (124, 3, cd_343) := nn_hold (fuel := (nat_lit 17)) (sp := []) (HD := []) (HN := []) (mu := (((.ofNat (nat_lit 0)), [], []), ((.ofNat (nat_lit 0)), [], []), (.ofNat (nat_lit 0)), [], [])) (KS := [((nat_lit 122), (nat_lit 1), cd_136), ((nat_lit 123), (nat_lit 2), cd_137), ((nat_lit 87), (nat_lit 0), cd_342)]) (NS := []) hinj nn_MT_code nn_KI1_ok nn_KJ1_ok nn_PF1_ok nn_PS1_ok nn_PM1_ok (List.forall_mem_cons.mpr ⟨ct_136 l cy ad wr cr D hinj, List.forall_mem_cons.mpr ⟨ct_137 l cy ad wr cr D hinj, List.forall_mem_cons.mpr ⟨ct_342 l cy ad wr cr D hinj, fun _ h => absurd h List.not_mem_nil⟩⟩⟩) (by decide +kernel)
/-- NameNotes.part  -/
def cd_344 : ab_CN := ([((nat_lit 1), (nat_lit 1), (.ofNat (nat_lit 0))), ((nat_lit 1), (nat_lit 2), (.ofNat (nat_lit 0))), ((nat_lit 0), (nat_lit 3), (.ofNat (nat_lit 0)))], [((.ofNat (nat_lit 0)), (.ofNat (nat_lit 0))), ((.negSucc (nat_lit 9223372036854775807)), (.ofNat (nat_lit 9223372036854775807))), ((.negSucc (nat_lit 9223372036854775807)), (.ofNat (nat_lit 9223372036854775807))), ((.negSucc (nat_lit 2147483647)), (.ofNat (nat_lit 2147483647)))], [], [], [([((nat_lit 1), (nat_lit 0), (.ofNat (nat_lit 0)))], [((.ofNat (nat_lit 0)), (.ofNat (nat_lit 0))), ((.negSucc (nat_lit 9223372036854775807)), (.ofNat (nat_lit 9223372036854775807))), ((.negSucc (nat_lit 9223372036854775807)), (.ofNat (nat_lit 9223372036854775807))), ((.negSucc (nat_lit 2147483647)), (.ofNat (nat_lit 2147483647)))], [], [], []), ([((nat_lit 1), (nat_lit 4), (.ofNat (nat_lit 0)))], [((.ofNat (nat_lit 0)), (.ofNat (nat_lit 0))), ((.negSucc (nat_lit 9223372036854775807)), (.ofNat (nat_lit 9223372036854775807))), ((.negSucc (nat_lit 9223372036854775807)), (.ofNat (nat_lit 9223372036854775807))), ((.negSucc (nat_lit 2147483647)), (.ofNat (nat_lit 2147483647))), ((.negSucc (nat_lit 9223372036854775807)), (.ofNat (nat_lit 9223372036854775807)))], [], [], [])])
theorem ct_344 (l : Launch) (cy : Nat → ClassId) (ad wr cr : Nat → Nat) (D : va_G) (hinj : nn_inj ad) : nn_H l cy ad wr cr D (193, 0, cd_344) := nn_hold (fuel := (nat_lit 21)) (sp := [(nat_lit 20), (nat_lit 48)]) (HD := [(nat_lit 9)]) (HN := []) (mu := (((.ofNat (nat_lit 1000000000000000000000)), [], []), ((.ofNat (nat_lit 0)), [], []), (.ofNat (nat_lit 0)), [], [])) (KS := []) (NS := [((nat_lit 9), ([((nat_lit 9), (nat_lit 0), (nat_lit 4), (.ofNat (nat_lit 0))), ((nat_lit 7), (nat_lit 1), (nat_lit 5), (.ofNat (nat_lit 0))), ((nat_lit 5), (nat_lit 1), (nat_lit 6), (.ofNat (nat_lit 0))), ((nat_lit 0), (nat_lit 1), (nat_lit 1), (.ofNat (nat_lit 0))), ((nat_lit 2), (nat_lit 1), (nat_lit 2), (.ofNat (nat_lit 0))), ((nat_lit 4), (nat_lit 0), (nat_lit 3), (.ofNat (nat_lit 0)))], [], [((.ofNat (nat_lit 0)), (.ofNat (nat_lit 0))), ((.negSucc (nat_lit 9223372036854775807)), (.ofNat (nat_lit 9223372036854775807))), ((.negSucc (nat_lit 9223372036854775807)), (.ofNat (nat_lit 9223372036854775807))), ((.negSucc (nat_lit 2147483647)), (.ofNat (nat_lit 2147483647))), ((.ofNat (nat_lit 0)), (.ofNat (nat_lit 512))), ((.negSucc (nat_lit 9223372036854775807)), (.ofNat (nat_lit 9223372036854775807))), ((.negSucc (nat_lit 9223372036854775807)), (.ofNat (nat_lit 9223372036854775807)))], [], [], []), ((.ofNat (nat_lit 512)), [], [(nat_lit 4)]), ((.ofNat (nat_lit 0)), [], []), (.ofNat (nat_lit 0)), [], [])]) hinj nn_MT_code nn_KI1_ok nn_KJ1_ok nn_PF1_ok nn_PS1_ok nn_PM1_ok (fun _ h => absurd h List.not_mem_nil) (by decide +kernel)
end
section
/-! instructions over known numbers: each value by its row, a number as it is (an int stands for its rest by 2^32) -/
def fw_z : Nat → Int := fun _ => 0
def fw_c (x : Int) : Int := (Int32.ofInt x).toInt
def fw_d (x : Int) : Int := (Int64.ofInt x).toInt
theorem fw_c_id {x : Int} (h1 : -2147483648 ≤ x) (h2 : x ≤ 2147483647) : fw_c x = x := Int32.toInt_ofInt_of_le (by omega) (by omega)
theorem fw_d_id {x : Int} (h1 : -9223372036854775808 ≤ x) (h2 : x ≤ 9223372036854775807) : fw_d x = x := Int64.toInt_ofInt_of_le (by omega) (by omega)
theorem fw_c_in (x : Int) : -2147483648 ≤ fw_c x ∧ fw_c x ≤ 2147483647 := ab_r32 _
theorem fw_c_of (x : Int) : Int32.ofInt (fw_c x) = Int32.ofInt x := Int32.ofInt_toInt _
theorem fw_d_of (x : Int) : Int64.ofInt (fw_d x) = Int64.ofInt x := Int64.ofInt_toInt _
theorem fw_c_c (x : Int) : fw_c (fw_c x) = fw_c x := by unfold fw_c; rw [Int32.ofInt_toInt]
theorem fw_d_d (x : Int) : fw_d (fw_d x) = fw_d x := by unfold fw_d; rw [Int64.ofInt_toInt]
/-- the locals by their places: known, or not -/
abbrev fw_L : Type := List (Option ab_AV)
def fw_lk : fw_L → Nat → Option ab_AV
  | [], _ => none
  | a :: _, 0 => a
  | _ :: L, i + 1 => fw_lk L i
/-- a long whose second half is written is known no more -/
def fw_kl (a : Option ab_AV) : Option ab_AV := match a with
  | some (1, _, _) => none
  | a => a
def fw_s1 : fw_L → Nat → ab_AV → fw_L
  | [], _, _ => []
  | _ :: L, 0, v => some v :: L
  | a :: L, 1, v => fw_kl a :: fw_s1 L 0 v
  | a :: L, i + 2, v => a :: fw_s1 L (i + 1) v
def fw_n : fw_L → Nat → fw_L
  | [], _ => []
  | _ :: L, 0 => none :: L
  | a :: L, i + 1 => a :: fw_n L i
def fw_s2 (L : fw_L) (i : Nat) (v : ab_AV) : fw_L := fw_n (fw_s1 L i v) (i + 1)
theorem fw_kl_ok {a : Option ab_AV} {b : ab_AV} (h : fw_kl a = some b) : a = some b ∧ b.1 ≠ 1 := by
  unfold fw_kl at h
  split at h
  · cases h
  · rename_i hn
    subst h
    refine ⟨rfl, fun q => ?_⟩
    obtain ⟨t, s, c⟩ := b
    have q : t = 1 := q
    subst q
    exact hn s c rfl
theorem fw_lk_s1 : ∀ {L : fw_L} {i j : Nat} {v b : ab_AV}, fw_lk (fw_s1 L i v) j = some b → (j = i ∧ b = v) ∨ (j ≠ i ∧ fw_lk L j = some b ∧ ¬ (j + 1 = i ∧ b.1 = 1)) := by
  intro L
  induction L with
  | nil =>
    intro i j v b h
    cases i <;> cases h
  | cons a L ih =>
    intro i j v b h
    match i, h with
    | 0, h =>
      cases j with
      | zero => cases h; exact Or.inl ⟨rfl, rfl⟩
      | succ j => exact Or.inr ⟨by omega, h, fun q => by omega⟩
    | 1, h =>
      cases j with
      | zero =>
        obtain ⟨h1, h2⟩ := fw_kl_ok h
        exact Or.inr ⟨by omega, h1, fun q => h2 q.2⟩
      | succ j =>
        rcases ih (i := 0) h with ⟨h1, h2⟩ | ⟨h1, h2, h3⟩
        · exact Or.inl ⟨by omega, h2⟩
        · exact Or.inr ⟨by omega, h2, fun q => by omega⟩
    | i + 2, h =>
      cases j with
      | zero => exact Or.inr ⟨by omega, h, fun q => by omega⟩
      | succ j =>
        rcases ih (i := i + 1) h with ⟨h1, h2⟩ | ⟨h1, h2, h3⟩
        · exact Or.inl ⟨by omega, h2⟩
        · exact Or.inr ⟨by omega, h2, fun q => h3 ⟨by omega, q.2⟩⟩
theorem fw_lk_n : ∀ {L : fw_L} {i j : Nat} {b : ab_AV}, fw_lk (fw_n L i) j = some b → j ≠ i ∧ fw_lk L j = some b := by
  intro L
  induction L with
  | nil =>
    intro i j b h
    cases h
  | cons a L ih =>
    intro i j b h
    cases i with
    | zero =>
      cases j with
      | zero => cases h
      | succ j => exact ⟨by omega, h⟩
    | succ i =>
      cases j with
      | zero => exact ⟨by omega, h⟩
      | succ j =>
        obtain ⟨h1, h2⟩ := ih h
        exact ⟨by omega, h2⟩
section
variable {ad wr cr : Nat → Nat} {nL : Nat} {L : fw_L} {ls : Array Slot} {S : List ab_AV} {st : List Value}
theorem fw_V0 {s : Nat} {c : Int} : ab_V ad wr cr fw_z (0, s, c) = .int (Int32.ofInt c) := by
  show Value.int (Int32.ofInt (0 + c)) = _
  rw [Int.zero_add]
theorem fw_V1 {s : Nat} {c : Int} : ab_V ad wr cr fw_z (1, s, c) = .long (Int64.ofInt c) := by
  show Value.long (Int64.ofInt (0 + c)) = _
  rw [Int.zero_add]
theorem fw_V4 {s : Nat} {c : Int} : ab_V ad wr cr fw_z (4, s, c) = ab_wv wr c := by
  show ab_wv wr (0 + c) = _
  rw [Int.zero_add]
def fw_okL (ad wr cr : Nat → Nat) (nL : Nat) (L : fw_L) (ls : Array Slot) : Prop := ls.size = nL ∧ lv_wf ls ∧ ∀ (j : Nat) (b : ab_AV), fw_lk L j = some b → ls[j]? = some (.val (ab_V ad wr cr fw_z b))
def fw_tl (ad wr cr : Nat → Nat) : Nat → fw_L → List (Nat × Value)
  | _, [] => []
  | i, some a :: L => (i, ab_V ad wr cr fw_z a) :: fw_tl ad wr cr (i + 1) L
  | i, none :: L => fw_tl ad wr cr (i + 1) L
theorem fw_tl_mem : ∀ (L : fw_L) (i : Nat) (q : Nat × Value), q ∈ fw_tl ad wr cr i L ↔ ∃ (j : Nat) (b : ab_AV), q.1 = i + j ∧ fw_lk L j = some b ∧ q.2 = ab_V ad wr cr fw_z b := by
  intro L
  induction L with
  | nil =>
    intro i q
    exact ⟨fun h => (by cases h), fun ⟨j, b, h1, h2, h3⟩ => (by cases h2)⟩
  | cons a L ih =>
    intro i q
    have tail : q ∈ fw_tl ad wr cr (i + 1) L ↔ ∃ (j : Nat) (b : ab_AV), q.1 = i + (j + 1) ∧ fw_lk L j = some b ∧ q.2 = ab_V ad wr cr fw_z b := by
      rw [ih]
      refine ⟨fun ⟨j, b, h1, h2, h3⟩ => ⟨j, b, by omega, h2, h3⟩, fun ⟨j, b, h1, h2, h3⟩ => ⟨j, b, by omega, h2, h3⟩⟩
    cases a with
    | none =>
      show q ∈ fw_tl ad wr cr (i + 1) L ↔ _
      rw [tail]
      refine ⟨fun ⟨j, b, h1, h2, h3⟩ => ⟨j + 1, b, h1, h2, h3⟩, fun ⟨j, b, h1, h2, h3⟩ => ?_⟩
      cases j with
      | zero => cases h2
      | succ j => exact ⟨j, b, h1, h2, h3⟩
    | some a =>
      show q ∈ (i, ab_V ad wr cr fw_z a) :: fw_tl ad wr cr (i + 1) L ↔ _
      rw [List.mem_cons, tail]
      refine ⟨fun h => ?_, fun ⟨j, b, h1, h2, h3⟩ => ?_⟩
      · rcases h with rfl | ⟨j, b, h1, h2, h3⟩
        · exact ⟨0, a, rfl, rfl, rfl⟩
        · exact ⟨j + 1, b, h1, h2, h3⟩
      · cases j with
        | zero =>
          have h2 : some a = some b := h2
          cases h2
          exact Or.inl (Prod.ext h1 h3)
        | succ j => exact Or.inr ⟨j, b, h1, h2, h3⟩
theorem fw_okL_has (h : fw_okL ad wr cr nL L ls) : lv_has ls nL (fw_tl ad wr cr 0 L) := by
  refine ⟨h.1, h.2.1, fun q hq => ?_⟩
  obtain ⟨j, b, h1, h2, h3⟩ := (fw_tl_mem L 0 q).mp hq
  rw [h3, h1, Nat.zero_add]
  exact h.2.2 j b h2
theorem fw_has_s1 {ls' : Array Slot} {i : Nat} {a : ab_AV} (h : lv_has ls' nL ((i, ab_V ad wr cr fw_z a) :: (fw_tl ad wr cr 0 L).filter (fun q => !(q.1 == i) && !(q.1 + 1 == i && q.2.category == 2)))) : fw_okL ad wr cr nL (fw_s1 L i a) ls' := by
  refine ⟨h.1, h.2.1, fun j b hb => ?_⟩
  rcases fw_lk_s1 hb with ⟨rfl, rfl⟩ | ⟨h1, h2, h3⟩
  · exact h.2.2 (j, ab_V ad wr cr fw_z b) List.mem_cons_self
  · refine h.2.2 (j, ab_V ad wr cr fw_z b) (List.mem_cons_of_mem _ (List.mem_filter.mpr ⟨(fw_tl_mem L 0 _).mpr ⟨j, b, (Nat.zero_add j).symm, h2, rfl⟩, ?_⟩))
    rw [ab_V_cat, Bool.and_eq_true, Bool.not_eq_true', Bool.not_eq_true', beq_eq_false_iff_ne, Bool.and_eq_false_iff, beq_eq_false_iff_ne, beq_eq_false_iff_ne]
    refine ⟨h1, ?_⟩
    by_cases q : j + 1 = i
    · exact Or.inr (fun z => h3 ⟨q, z⟩)
    · exact Or.inl q
theorem fw_has_s2 {ls' : Array Slot} {i : Nat} {a : ab_AV} (h : lv_has ls' nL ((i, ab_V ad wr cr fw_z a) :: (fw_tl ad wr cr 0 L).filter (fun q => !(q.1 == i) && (!(q.1 == i + 1) && !(q.1 + 1 == i && q.2.category == 2))))) : fw_okL ad wr cr nL (fw_s2 L i a) ls' := by
  refine ⟨h.1, h.2.1, fun j b hb => ?_⟩
  obtain ⟨hb0, hb⟩ := fw_lk_n hb
  rcases fw_lk_s1 hb with ⟨rfl, rfl⟩ | ⟨h1, h2, h3⟩
  · exact h.2.2 (j, ab_V ad wr cr fw_z b) List.mem_cons_self
  · refine h.2.2 (j, ab_V ad wr cr fw_z b) (List.mem_cons_of_mem _ (List.mem_filter.mpr ⟨(fw_tl_mem L 0 _).mpr ⟨j, b, (Nat.zero_add j).symm, h2, rfl⟩, ?_⟩))
    rw [ab_V_cat, Bool.and_eq_true, Bool.and_eq_true, Bool.not_eq_true', Bool.not_eq_true', Bool.not_eq_true', beq_eq_false_iff_ne, beq_eq_false_iff_ne, Bool.and_eq_false_iff, beq_eq_false_iff_ne, beq_eq_false_iff_ne]
    refine ⟨h1, hb0, ?_⟩
    by_cases q : j + 1 = i
    · exact Or.inr (fun z => h3 ⟨q, z⟩)
    · exact Or.inl q
/-- the locals at a method's entry -/
def fw_ex : List ab_AV → fw_L
  | [] => []
  | a :: as => match a.1 with
    | 1 => some a :: none :: fw_ex as
    | _ => some a :: fw_ex as
def fw_pd : Nat → fw_L → fw_L
  | 0, _ => []
  | n + 1, [] => none :: fw_pd n []
  | n + 1, a :: L => a :: fw_pd n L
def fw_en (n : Nat) (as : List ab_AV) : fw_L := fw_pd n (fw_ex as)
theorem fw_pd_ok : ∀ (n : Nat) (L : fw_L) (j : Nat) (b : ab_AV), fw_lk (fw_pd n L) j = some b → fw_lk L j = some b := by
  intro n
  induction n with
  | zero => intro L j b h; cases h
  | succ n ih =>
    intro L j b h
    cases L with
    | nil =>
      cases j with
      | zero => cases h
      | succ j => exact absurd (ih [] j b h) (fun q => by cases q)
    | cons a L =>
      cases j with
      | zero => exact h
      | succ j => exact ih L j b h
theorem fw_ex_ok : ∀ (as : List ab_AV) (i j : Nat) (b : ab_AV), fw_lk (fw_ex as) j = some b → (i + j, ab_V ad wr cr fw_z b) ∈ lv_args i (as.map (ab_V ad wr cr fw_z)) := by
  intro as
  induction as with
  | nil => intro i j b h; cases h
  | cons a as ih =>
    intro i j b h
    show _ ∈ (i, ab_V ad wr cr fw_z a) :: lv_args (if (ab_V ad wr cr fw_z a).category = 2 then i + 2 else i + 1) (as.map (ab_V ad wr cr fw_z))
    replace h : fw_lk (match a.1 with
      | 1 => some a :: none :: fw_ex as
      | _ => some a :: fw_ex as) j = some b := h
    cases hc : a.1.beq 1 with
    | true =>
      obtain ⟨t, s, c⟩ := a
      have := ab_beq hc
      subst this
      match j, h with
      | 0, h => cases h; exact List.mem_cons_self
      | 1, h => cases h
      | j + 2, h =>
        refine List.mem_cons_of_mem _ ?_
        have e : i + (j + 2) = i + 2 + j := by omega
        rw [e]
        exact ih (i + 2) j b h
    | false =>
      have h1 := ab_V_cat1 (ad := ad) (wr := wr) (cr := cr) (ρ := fw_z) hc
      rw [h1]
      have hne : a.1 ≠ 1 := fun q => by rw [q] at hc; cases hc
      have h2 : fw_lk (some a :: fw_ex as) j = some b := by
        split at h
        · rename_i q; exact absurd q hne
        · exact h
      cases j with
      | zero => cases h2; exact List.mem_cons_self
      | succ j =>
        refine List.mem_cons_of_mem _ ?_
        have e : i + (j + 1) = i + 1 + j := by omega
        rw [e]
        exact ih (i + 1) j b h2
theorem fw_en_ok (as : List ab_AV) (n i j : Nat) (b : ab_AV) (h : fw_lk (fw_en n as) j = some b) : (i + j, ab_V ad wr cr fw_z b) ∈ lv_args i (as.map (ab_V ad wr cr fw_z)) := fw_ex_ok as i j b (fw_pd_ok n _ j b h)
def fw_okS (ad wr cr : Nat → Nat) (S : List ab_AV) (st : List Value) : Prop := st = S.map (ab_V ad wr cr fw_z)
theorem fw_push {a : ab_AV} (h : fw_okS ad wr cr S st) : fw_okS ad wr cr (a :: S) (ab_V ad wr cr fw_z a :: st) := by
  unfold fw_okS at h ⊢
  rw [List.map_cons, ← h]
theorem fw_push0 {s : Nat} {c : Int} (h : fw_okS ad wr cr S st) : fw_okS ad wr cr ((0, s, c) :: S) (.int (Int32.ofInt c) :: st) := by
  have := fw_push (a := (0, s, c)) h
  rw [fw_V0] at this
  exact this
theorem fw_push1 {s : Nat} {c : Int} (h : fw_okS ad wr cr S st) : fw_okS ad wr cr ((1, s, c) :: S) (.long (Int64.ofInt c) :: st) := by
  have := fw_push (a := (1, s, c)) h
  rw [fw_V1] at this
  exact this
theorem fw_pushi {s : Nat} {z : Int32} {c : Int} (h : fw_okS ad wr cr S st) (hz : Int32.ofInt c = z) : fw_okS ad wr cr ((0, s, c) :: S) (.int z :: st) := hz ▸ fw_push0 h
theorem fw_pushl {s : Nat} {z : Int64} {c : Int} (h : fw_okS ad wr cr S st) (hz : Int64.ofInt c = z) : fw_okS ad wr cr ((1, s, c) :: S) (.long z :: st) := hz ▸ fw_push1 h
theorem fw_pop {a : ab_AV} (h : fw_okS ad wr cr (a :: S) st) : ∃ st', st = ab_V ad wr cr fw_z a :: st' ∧ fw_okS ad wr cr S st' := ⟨S.map (ab_V ad wr cr fw_z), by rw [show st = _ from h, List.map_cons], rfl⟩
theorem fw_pop0 {s : Nat} {c : Int} (h : fw_okS ad wr cr ((0, s, c) :: S) st) : ∃ st', st = .int (Int32.ofInt c) :: st' ∧ fw_okS ad wr cr S st' := by
  obtain ⟨st', h1, h2⟩ := fw_pop h
  rw [fw_V0] at h1
  exact ⟨st', h1, h2⟩
theorem fw_pop1 {s : Nat} {c : Int} (h : fw_okS ad wr cr ((1, s, c) :: S) st) : ∃ st', st = .long (Int64.ofInt c) :: st' ∧ fw_okS ad wr cr S st' := by
  obtain ⟨st', h1, h2⟩ := fw_pop h
  rw [fw_V1] at h1
  exact ⟨st', h1, h2⟩
theorem fw_at {i : Nat} {a : ab_AV} (h : fw_okL ad wr cr nL L ls) (hk : fw_lk L i = some a) : ls[i]? = some (.val (ab_V ad wr cr fw_z a)) := h.2.2 i a hk
end
/-- what an operation answers -/
def fw_op (o : Nat) (x y : Int) : Int := match o with
  | 0 => x + y
  | 1 => x - y
  | 2 => x * y
  | _ => (ab_sem o (Int32.ofInt x) (Int32.ofInt y)).toInt
theorem fw_op_ok (o : Nat) (x y : Int) : Int32.ofInt (fw_op o x y) = ab_sem o (Int32.ofInt x) (Int32.ofInt y) := by
  match o with
  | 0 => show Int32.ofInt (x + y) = Int32.ofInt x + Int32.ofInt y; rw [Int32.ofInt_add]
  | 1 => show Int32.ofInt (x - y) = Int32.ofInt x - Int32.ofInt y; rw [Int32.ofInt_sub]
  | 2 => show Int32.ofInt (x * y) = Int32.ofInt x * Int32.ofInt y; rw [Int32.ofInt_mul]
  | n + 3 => exact Int32.ofInt_toInt _
def fw_lop (o : Nat) (x y : Int) : Int := match o with
  | 0 => x + y
  | 1 => x - y
  | 2 => x * y
  | _ => (ab_lsem o (Int64.ofInt x) (Int64.ofInt y)).toInt
theorem fw_lop_ok (o : Nat) (x y : Int) : Int64.ofInt (fw_lop o x y) = ab_lsem o (Int64.ofInt x) (Int64.ofInt y) := by
  match o with
  | 0 => show Int64.ofInt (x + y) = Int64.ofInt x + Int64.ofInt y; rw [Int64.ofInt_add]
  | 1 => show Int64.ofInt (x - y) = Int64.ofInt x - Int64.ofInt y; rw [Int64.ofInt_sub]
  | 2 => show Int64.ofInt (x * y) = Int64.ofInt x * Int64.ofInt y; rw [Int64.ofInt_mul]
  | n + 3 => exact Int64.ofInt_toInt _
def fw_b (x : Int) : Int := ((Int8.ofInt x).toInt32).toInt
def fw_u (x y : Int) : Int := (((Int64.ofInt x).toUInt64 >>> ((Int32.ofInt y).toInt64.toUInt64 &&& Int64.toUInt64 63)).toInt64).toInt
abbrev fw_PU : Type := fw_L × List ab_AV
def fw_ld (f : ab_AV → Bool) (L : fw_L) (i : Nat) (S : List ab_AV) : Option fw_PU := match fw_lk L i with
  | some a => cond (f a) (some (L, a :: S)) none
  | none => none
/-- locals and stack alone -/
def fw_pu (KI KJ : List (Nat × Int)) (nL : Nat) (i : Instr) (len : Nat) (L : fw_L) (S : List ab_AV) : Option fw_PU := match i with
  | .iconst n => cond (len.beq 1) (some (L, (0, 0, n) :: S)) none
  | .bipush n => cond (len.beq 2 && ab_le (-128) n && ab_le n 127) (some (L, (0, 0, n) :: S)) none
  | .sipush n => cond (len.beq 3 && ab_le (-32768) n && ab_le n 32767) (some (L, (0, 0, n) :: S)) none
  | .lconst n => cond (len.beq 1) (some (L, (1, 0, ((n : Nat) : Int)) :: S)) none
  | .aconst_null => cond (len.beq 1) (some (L, (3, 0, 0) :: S)) none
  | .ldc x => cond (len.beq 2) (match ab_kc KI x with | some v => some (L, (0, 0, v) :: S) | none => none) none
  | .ldc_w x => cond (len.beq 3) (match ab_kc KI x with | some v => some (L, (0, 0, v) :: S) | none => none) none
  | .ldc2_w x => cond (len.beq 3) (match ab_kc KJ x with | some v => some (L, (1, 0, v) :: S) | none => none) none
  | .iload_n k => cond (len.beq 1) (fw_ld (fun a => a.1.beq 0) L k S) none
  | .iload k => cond (len.beq 2) (fw_ld (fun a => a.1.beq 0) L k S) none
  | .lload_n k => cond (len.beq 1) (fw_ld (fun a => a.1.beq 1) L k S) none
  | .lload k => cond (len.beq 2) (fw_ld (fun a => a.1.beq 1) L k S) none
  | .aload_n k => cond (len.beq 1) (fw_ld (fun a => (2 : Nat).ble a.1) L k S) none
  | .aload k => cond (len.beq 2) (fw_ld (fun a => (2 : Nat).ble a.1) L k S) none
  | .istore_n k => match S with
    | (0, s, c) :: S => cond (len.beq 1 && (k + 1 : Nat).ble nL) (some (fw_s1 L k (0, s, c), S)) none
    | _ => none
  | .istore k => match S with
    | (0, s, c) :: S => cond (len.beq 2 && (k + 1).ble nL) (some (fw_s1 L k (0, s, c), S)) none
    | _ => none
  | .lstore_n k => match S with
    | (1, s, c) :: S => cond (len.beq 1 && (k + 2 : Nat).ble nL) (some (fw_s2 L k (1, s, c), S)) none
    | _ => none
  | .lstore k => match S with
    | (1, s, c) :: S => cond (len.beq 2 && (k + 2).ble nL) (some (fw_s2 L k (1, s, c), S)) none
    | _ => none
  | .astore_n k => match S with
    | a :: S => cond (len.beq 1 && (k + 1 : Nat).ble nL && (2 : Nat).ble a.1) (some (fw_s1 L k a, S)) none
    | _ => none
  | .astore k => match S with
    | a :: S => cond (len.beq 2 && (k + 1).ble nL && (2 : Nat).ble a.1) (some (fw_s1 L k a, S)) none
    | _ => none
  | .dup => match S with
    | a :: S => cond (len.beq 1 && !(a.1.beq 1)) (some (L, a :: a :: S)) none
    | _ => none
  | .dup2 => match S with
    | a :: b :: S => cond (len.beq 1 && !(a.1.beq 1) && !(b.1.beq 1)) (some (L, a :: b :: a :: b :: S)) none
    | _ => none
  | .pop => match S with
    | a :: S => cond (len.beq 1 && !(a.1.beq 1)) (some (L, S)) none
    | _ => none
  | .iinc k n => match fw_lk L k with
    | some (0, s, c) => cond (len.beq 3 && (k + 1).ble nL) (some (fw_s1 L k (0, s, c + n), S)) none
    | _ => none
  | .ineg => match S with
    | (0, s, c) :: S => cond (len.beq 1) (some (L, (0, s, -c) :: S)) none
    | _ => none
  | .lneg => match S with
    | (1, s, c) :: S => cond (len.beq 1) (some (L, (1, s, -c) :: S)) none
    | _ => none
  | .lushr => match S with
    | (0, _, d) :: (1, s, c) :: S => cond (len.beq 1) (some (L, (1, s, fw_u c d) :: S)) none
    | _ => none
  | .i2l => match S with
    | (0, s, c) :: S => cond (len.beq 1) (some (L, (1, s, fw_c c) :: S)) none
    | _ => none
  | .l2i => match S with
    | (1, s, c) :: S => cond (len.beq 1) (some (L, (0, s, c) :: S)) none
    | _ => none
  | .i2b => match S with
    | (0, s, c) :: S => cond (len.beq 1) (some (L, (0, s, fw_b c) :: S)) none
    | _ => none
  | i => match ab_bo i, S with
    | some o, (0, _, d) :: (0, s, c) :: S => cond (len.beq 1 && !(o.beq 3 || o.beq 4)) (some (L, (0, s, fw_op o c d) :: S)) none
    | _, _ => match ab_bl i, S with
      | some o, (1, _, d) :: (1, s, c) :: S => cond (len.beq 1 && !(o.beq 3 || o.beq 4)) (some (L, (1, s, fw_lop o c d) :: S)) none
      | _, _ => none
/-- a divisor must not be nought -/
def fw_dv (i : Instr) (len : Nat) (S : List ab_AV) : Option (Int × List ab_AV) := match ab_bo i, S with
  | some o, (0, _, d) :: (0, s, c) :: S => cond (len.beq 1) (some (fw_c d, (0, s, fw_op o c d) :: S)) none
  | _, _ => match ab_bl i, S with
    | some o, (1, _, d) :: (1, s, c) :: S => cond (len.beq 1) (some (fw_d d, (1, s, fw_lop o c d) :: S)) none
    | _, _ => none
section
variable {p : Program} {l : Launch} {e : Env} {R : Room} {s : State} {m : MethodId} {args : Array Value} {below : List Frame} {meth : Method} {c : Code} {H : Heap} {locs : List Loc} {cells slots : Nat} {Q : State → Prop} {cc : ByteArray} {pc : Nat} {ls : Array Slot} {st : List Value}
variable {ad wr cr : Nat → Nat} {nL : Nat} {L L' : fw_L} {S S' : List ab_AV} {own : String} {KI KJ : List (Nat × Int)} {i : Instr} {len : Nat}
set_option maxHeartbeats 4000000 in
theorem fw_pu_ok (hx : p.tables.exec = Jvm.exec) (hb : c.code = cc) (hown : s.vm.findClass own = some m.cls) (hKI : ∀ q ∈ KI, (Jvm.Cond.constant own q.1 (Int32.ofInt q.2)).before args s = true) (hKJ : ∀ q ∈ KJ, (Jvm.Cond.constantLong own q.1 (Int64.ofInt q.2)).before args s = true)
    (hpu : fw_pu KI KJ nL i len L S = some (L', S')) (hdg : decode cc pc = .ok (i, len)) (hL : fw_okL ad wr cr nL L ls) (hS : fw_okS ad wr cr S st)
    (kk : ∀ (ls' : Array Slot) (st' : List Value), fw_okL ad wr cr nL L' ls' → fw_okS ad wr cr S' st' → W p l e R s m args below meth c H locs cells slots Q (F0 m (pc + len) ls' st')) :
    W p l e R s m args below meth c H locs cells slots Q (F0 m pc ls st) := by
  have K0 : ∀ st' : List Value, L' = L → fw_okS ad wr cr S' st' → W p l e R s m args below meth c H locs cells slots Q (F0 m (pc + len) ls st') := by
    intro st' e1 hS'
    subst e1
    exact kk ls st' hL hS'
  have LD : ∀ (f : ab_AV → Bool) (k : Nat), fw_ld f L k S = some (L', S') → ∃ a, ls[k]? = some (.val (ab_V ad wr cr fw_z a)) ∧ f a = true ∧ W p l e R s m args below meth c H locs cells slots Q (F0 m (pc + len) ls (ab_V ad wr cr fw_z a :: st)) := by
    intro f k h
    unfold fw_ld at h
    cases ha : fw_lk L k with
    | none => rw [ha] at h; cases h
    | some a =>
      rw [ha] at h
      obtain ⟨h1, h2⟩ := ab_cs h
      cases h2
      exact ⟨a, fw_at hL ha, h1, K0 _ rfl (fw_push hS)⟩
  have V0 : ∀ a : ab_AV, a.1.beq 0 = true → ∃ x, ab_V ad wr cr fw_z a = .int x := fun a ha => by
    obtain ⟨t, s, c⟩ := a
    have := ab_beq ha
    subst this
    exact ⟨_, rfl⟩
  have V1 : ∀ a : ab_AV, a.1.beq 1 = true → ∃ x, ab_V ad wr cr fw_z a = .long x := fun a ha => by
    obtain ⟨t, s, c⟩ := a
    have := ab_beq ha
    subst this
    exact ⟨_, rfl⟩
  unfold fw_pu at hpu
  split at hpu
  · obtain ⟨g, h⟩ := ab_cs hpu; cases h
    have := ab_beq g; subst this
    exact lv_iconst hx hb hdg rfl (K0 _ rfl (fw_push0 hS))
  · obtain ⟨g, h⟩ := ab_cs hpu; cases h
    rw [Bool.and_eq_true, Bool.and_eq_true, ab_le_iff, ab_le_iff] at g
    have := ab_beq g.1.1; subst this
    have g1 := g.1.2
    have g2 := g.2
    exact lv_bipush hx hb hdg (Int8.toInt32_ofInt (by rw [Int8.toInt_minValue]; omega) (by rw [Int8.toInt_maxValue]; omega)) (K0 _ rfl (fw_push0 hS))
  · obtain ⟨g, h⟩ := ab_cs hpu; cases h
    rw [Bool.and_eq_true, Bool.and_eq_true, ab_le_iff, ab_le_iff] at g
    have := ab_beq g.1.1; subst this
    have g1 := g.1.2
    have g2 := g.2
    exact lv_sipush hx hb hdg (Int16.toInt32_ofInt (by rw [Int16.toInt_minValue]; omega) (by rw [Int16.toInt_maxValue]; omega)) (K0 _ rfl (fw_push0 hS))
  · obtain ⟨g, h⟩ := ab_cs hpu; cases h
    have := ab_beq g; subst this
    exact lv_lconst hx hb hdg rfl (K0 _ rfl (fw_push1 hS))
  · obtain ⟨g, h⟩ := ab_cs hpu; cases h
    have := ab_beq g; subst this
    exact lv_null hx hb hdg (K0 _ rfl (fw_push (a := (3, 0, 0)) hS))
  · obtain ⟨g, h⟩ := ab_co hpu
    have := ab_beq g; subst this
    split at h
    · cases h
      exact lv_ldc hx hb hown (hKI _ (ab_kc_mem (by assumption))) hdg (K0 _ rfl (fw_push0 hS))
    · cases h
  · obtain ⟨g, h⟩ := ab_co hpu
    have := ab_beq g; subst this
    split at h
    · cases h
      exact lv_ldcw hx hb hown (hKI _ (ab_kc_mem (by assumption))) hdg (K0 _ rfl (fw_push0 hS))
    · cases h
  · obtain ⟨g, h⟩ := ab_co hpu
    have := ab_beq g; subst this
    split at h
    · cases h
      exact lv_ldc2 hx hb hown (hKJ _ (ab_kc_mem (by assumption))) hdg (K0 _ rfl (fw_push1 hS))
    · cases h
  · obtain ⟨g, h⟩ := ab_co hpu
    have := ab_beq g; subst this
    obtain ⟨a, a1, a2, a3⟩ := LD _ _ h
    obtain ⟨x, hx1⟩ := V0 a a2
    rw [hx1] at a1 a3
    exact lv_iload_n hx hb hdg rfl a1 a3
  · obtain ⟨g, h⟩ := ab_co hpu
    have := ab_beq g; subst this
    obtain ⟨a, a1, a2, a3⟩ := LD _ _ h
    obtain ⟨x, hx1⟩ := V0 a a2
    rw [hx1] at a1 a3
    exact lv_iload hx hb hdg a1 a3
  · obtain ⟨g, h⟩ := ab_co hpu
    have := ab_beq g; subst this
    obtain ⟨a, a1, a2, a3⟩ := LD _ _ h
    obtain ⟨x, hx1⟩ := V1 a a2
    rw [hx1] at a1 a3
    exact lv_lload_n hx hb hdg rfl a1 a3
  · obtain ⟨g, h⟩ := ab_co hpu
    have := ab_beq g; subst this
    obtain ⟨a, a1, a2, a3⟩ := LD _ _ h
    obtain ⟨x, hx1⟩ := V1 a a2
    rw [hx1] at a1 a3
    exact lv_lload hx hb hdg a1 a3
  · obtain ⟨g, h⟩ := ab_co hpu
    have := ab_beq g; subst this
    obtain ⟨a, a1, a2, a3⟩ := LD _ _ h
    rcases ab_ref (ad := ad) (wr := wr) (cr := cr) (ρ := fw_z) a2 with ⟨x, hx1⟩ | hx1
    · rw [hx1] at a1 a3
      exact lv_aload_n hx hb hdg rfl a1 a3
    · rw [hx1] at a1 a3
      exact lv_aload_nN hx hb hdg rfl a1 a3
  · obtain ⟨g, h⟩ := ab_co hpu
    have := ab_beq g; subst this
    obtain ⟨a, a1, a2, a3⟩ := LD _ _ h
    rcases ab_ref (ad := ad) (wr := wr) (cr := cr) (ρ := fw_z) a2 with ⟨x, hx1⟩ | hx1
    · rw [hx1] at a1 a3
      exact lv_aload hx hb hdg a1 a3
    · rw [hx1] at a1 a3
      exact lv_aloadN hx hb hdg a1 a3
  · split at hpu
    · rename_i k9 x9 s9 c9 S9
      obtain ⟨g, h⟩ := ab_cs hpu; cases h
      rw [Bool.and_eq_true] at g
      have := ab_beq g.1; subst this
      obtain ⟨st1, rfl, hS1⟩ := fw_pop hS
      exact lv_istore_n hx hb hdg rfl (fw_okL_has hL) (Nat.le_of_ble_eq_true g.2) rfl (fun ls' hl' => kk ls' st1 (fw_has_s1 hl') hS1)
    · cases hpu
  · split at hpu
    · rename_i k9 x9 s9 c9 S9
      obtain ⟨g, h⟩ := ab_cs hpu; cases h
      rw [Bool.and_eq_true] at g
      have := ab_beq g.1; subst this
      obtain ⟨st1, rfl, hS1⟩ := fw_pop hS
      exact lv_istore hx hb hdg (fw_okL_has hL) (Nat.le_of_ble_eq_true g.2) rfl (fun ls' hl' => kk ls' st1 (fw_has_s1 hl') hS1)
    · cases hpu
  · split at hpu
    · rename_i k9 x9 s9 c9 S9
      obtain ⟨g, h⟩ := ab_cs hpu; cases h
      rw [Bool.and_eq_true] at g
      have := ab_beq g.1; subst this
      obtain ⟨st1, rfl, hS1⟩ := fw_pop hS
      exact lv_lstore_n hx hb hdg rfl (fw_okL_has hL) (Nat.le_of_ble_eq_true g.2) rfl (fun ls' hl' => kk ls' st1 (fw_has_s2 hl') hS1)
    · cases hpu
  · split at hpu
    · rename_i k9 x9 s9 c9 S9
      obtain ⟨g, h⟩ := ab_cs hpu; cases h
      rw [Bool.and_eq_true] at g
      have := ab_beq g.1; subst this
      obtain ⟨st1, rfl, hS1⟩ := fw_pop hS
      exact lv_lstore hx hb hdg (fw_okL_has hL) (Nat.le_of_ble_eq_true g.2) rfl (fun ls' hl' => kk ls' st1 (fw_has_s2 hl') hS1)
    · cases hpu
  · split at hpu
    · rename_i A9 S9
      obtain ⟨g, h⟩ := ab_cs hpu; cases h
      rw [Bool.and_eq_true, Bool.and_eq_true] at g
      have := ab_beq g.1.1; subst this
      obtain ⟨st1, rfl, hS1⟩ := fw_pop hS
      have hm1 : ∀ (i : Nat) (ls' : Array Slot), lv_has ls' nL ((i, ab_V ad wr cr fw_z A9) :: (fw_tl ad wr cr 0 L).filter (fun q => !(q.1 == i) && !(q.1 + 1 == i && q.2.category == 2))) → fw_okL ad wr cr nL (fw_s1 L i A9) ls' := fun i ls' h => fw_has_s1 h
      rcases ab_ref (ad := ad) (wr := wr) (cr := cr) (ρ := fw_z) g.2 with ⟨x, hx1⟩ | hx1
      · rw [hx1] at hm1 ⊢
        exact lv_astore_n hx hb hdg rfl (fw_okL_has hL) (Nat.le_of_ble_eq_true g.1.2) rfl (fun ls' hl' => kk ls' st1 (hm1 _ ls' hl') hS1)
      · rw [hx1] at hm1 ⊢
        exact lv_astore_nN hx hb hdg rfl (fw_okL_has hL) (Nat.le_of_ble_eq_true g.1.2) rfl (fun ls' hl' => kk ls' st1 (hm1 _ ls' hl') hS1)
    · cases hpu
  · split at hpu
    · rename_i A9 S9
      obtain ⟨g, h⟩ := ab_cs hpu; cases h
      rw [Bool.and_eq_true, Bool.and_eq_true] at g
      have := ab_beq g.1.1; subst this
      obtain ⟨st1, rfl, hS1⟩ := fw_pop hS
      have hm1 : ∀ (i : Nat) (ls' : Array Slot), lv_has ls' nL ((i, ab_V ad wr cr fw_z A9) :: (fw_tl ad wr cr 0 L).filter (fun q => !(q.1 == i) && !(q.1 + 1 == i && q.2.category == 2))) → fw_okL ad wr cr nL (fw_s1 L i A9) ls' := fun i ls' h => fw_has_s1 h
      rcases ab_ref (ad := ad) (wr := wr) (cr := cr) (ρ := fw_z) g.2 with ⟨x, hx1⟩ | hx1
      · rw [hx1] at hm1 ⊢
        exact lv_astore hx hb hdg (fw_okL_has hL) (Nat.le_of_ble_eq_true g.1.2) rfl (fun ls' hl' => kk ls' st1 (hm1 _ ls' hl') hS1)
      · rw [hx1] at hm1 ⊢
        exact lv_astoreN hx hb hdg (fw_okL_has hL) (Nat.le_of_ble_eq_true g.1.2) rfl (fun ls' hl' => kk ls' st1 (hm1 _ ls' hl') hS1)
    · cases hpu
  · split at hpu
    · obtain ⟨g, h⟩ := ab_cs hpu; cases h
      rw [Bool.and_eq_true, Bool.not_eq_true'] at g
      have := ab_beq g.1; subst this
      obtain ⟨st1, rfl, hS1⟩ := fw_pop hS
      exact lv_dup hx hb hdg (ab_V_cat1 g.2) (K0 _ rfl (fw_push (fw_push hS1)))
    · cases hpu
  · split at hpu
    · obtain ⟨g, h⟩ := ab_cs hpu; cases h
      rw [Bool.and_eq_true, Bool.and_eq_true, Bool.not_eq_true', Bool.not_eq_true'] at g
      have := ab_beq g.1.1; subst this
      obtain ⟨st1, rfl, hS1⟩ := fw_pop hS
      obtain ⟨st2, rfl, hS2⟩ := fw_pop hS1
      exact lv_dup2_11 hx hb hdg (ab_V_cat1 g.1.2) (ab_V_cat1 g.2) (K0 _ rfl (fw_push (fw_push (fw_push (fw_push hS2)))))
    · cases hpu
  · split at hpu
    · obtain ⟨g, h⟩ := ab_cs hpu; cases h
      rw [Bool.and_eq_true, Bool.not_eq_true'] at g
      have := ab_beq g.1; subst this
      obtain ⟨st1, rfl, hS1⟩ := fw_pop hS
      exact lv_pop hx hb hdg (ab_V_cat1 g.2) (K0 _ rfl hS1)
    · cases hpu
  · split at hpu
    · rename_i k9 n9 x9 s9 c9 hk9
      obtain ⟨g, h⟩ := ab_cs hpu; cases h
      rw [Bool.and_eq_true] at g
      have := ab_beq g.1; subst this
      obtain ⟨j9, hj9⟩ := List.getElem?_of_mem ((fw_tl_mem (ad := ad) (wr := wr) (cr := cr) L 0 (k9, ab_V ad wr cr fw_z (0, s9, c9))).mpr ⟨k9, (0, s9, c9), (Nat.zero_add k9).symm, hk9, rfl⟩)
      refine lv_iinc hx hb hdg (fw_okL_has hL) (k := j9) (x := Int32.ofInt (fw_z s9 + c9)) (v := Int32.ofInt (fw_z s9 + (c9 + n9))) hj9 ?_ (Nat.le_of_ble_eq_true g.2) rfl (fun ls' hl' => kk ls' st (fw_has_s1 (a := (0, s9, c9 + n9)) hl') hS)
      rw [← Int32.ofInt_add, Int.add_assoc]
    · cases hpu
  · split at hpu
    · obtain ⟨g, h⟩ := ab_cs hpu; cases h
      have := ab_beq g; subst this
      obtain ⟨st1, rfl, hS1⟩ := fw_pop0 hS
      exact lv_ineg hx hb hdg (K0 _ rfl (fw_pushi hS1 (Int32.ofInt_neg _)))
    · cases hpu
  · split at hpu
    · obtain ⟨g, h⟩ := ab_cs hpu; cases h
      have := ab_beq g; subst this
      obtain ⟨st1, rfl, hS1⟩ := fw_pop1 hS
      exact lv_lneg hx hb hdg (K0 _ rfl (fw_pushl hS1 (Int64.ofInt_neg _)))
    · cases hpu
  · split at hpu
    · obtain ⟨g, h⟩ := ab_cs hpu; cases h
      have := ab_beq g; subst this
      obtain ⟨st1, rfl, hS1⟩ := fw_pop0 hS
      obtain ⟨st2, rfl, hS2⟩ := fw_pop1 hS1
      exact lv_lushr hx hb hdg rfl (K0 _ rfl (fw_pushl hS2 (Int64.ofInt_toInt _)))
    · cases hpu
  · split at hpu
    · rename_i s9 c9 S9
      obtain ⟨g, h⟩ := ab_cs hpu; cases h
      have := ab_beq g; subst this
      obtain ⟨st1, rfl, hS1⟩ := fw_pop0 hS
      refine lv_i2l hx hb hdg rfl (K0 _ rfl (fw_pushl hS1 ?_))
      apply Int64.toInt_inj.mp
      rw [Int32.toInt_toInt64]
      have r := fw_c_in c9
      exact Int64.toInt_ofInt_of_le (by omega) (by omega)
    · cases hpu
  · split at hpu
    · obtain ⟨g, h⟩ := ab_cs hpu; cases h
      have := ab_beq g; subst this
      obtain ⟨st1, rfl, hS1⟩ := fw_pop1 hS
      exact lv_l2i hx hb hdg rfl (K0 _ rfl (fw_pushi hS1 Int64.toInt32_ofInt.symm))
    · cases hpu
  · split at hpu
    · obtain ⟨g, h⟩ := ab_cs hpu; cases h
      have := ab_beq g; subst this
      obtain ⟨st1, rfl, hS1⟩ := fw_pop0 hS
      refine lv_i2b hx hb hdg rfl (K0 _ rfl (fw_pushi hS1 ?_))
      unfold fw_b
      rw [Int32.ofInt_toInt, Int32.toInt8_ofInt]
    · cases hpu
  · split at hpu
    · rename_i o9 t9 d9 s9 c9 S9 ho9
      obtain ⟨g, h⟩ := ab_cs hpu; cases h
      rw [Bool.and_eq_true, Bool.not_eq_true'] at g
      have := ab_beq g.1; subst this
      obtain ⟨st1, rfl, hS1⟩ := fw_pop0 hS
      obtain ⟨st2, rfl, hS2⟩ := fw_pop0 hS1
      refine ab_bo_row hx hb ho9 ?_ hdg (K0 _ rfl (fw_pushi hS2 (fw_op_ok _ _ _)))
      intro hz
      exfalso
      have g2 := g.2
      rcases hz with rfl | rfl <;> cases g2
    · split at hpu
      · rename_i o9 t9 d9 s9 c9 S9 ho9 hneg9
        obtain ⟨g, h⟩ := ab_cs hpu; cases h
        rw [Bool.and_eq_true, Bool.not_eq_true'] at g
        have := ab_beq g.1; subst this
        obtain ⟨st1, rfl, hS1⟩ := fw_pop1 hS
        obtain ⟨st2, rfl, hS2⟩ := fw_pop1 hS1
        refine ab_bl_row hx hb ho9 ?_ hdg (K0 _ rfl (fw_pushl hS2 (fw_lop_ok _ _ _)))
        intro hz
        exfalso
        have g2 := g.2
        rcases hz with rfl | rfl <;> cases g2
      · cases hpu
theorem fw_nz {d : Int} (h : fw_c d ≠ 0) : ¬ Int32.ofInt d = 0 := fun q => h (by unfold fw_c; rw [q]; rfl)
theorem fw_nzl {d : Int} (h : fw_d d ≠ 0) : ¬ Int64.ofInt d = 0 := fun q => h (by unfold fw_d; rw [q]; rfl)
theorem fw_dv_ok {d : Int} (hx : p.tables.exec = Jvm.exec) (hb : c.code = cc) (h : fw_dv i len S = some (d, S')) (hd : d ≠ 0) (hdg : decode cc pc = .ok (i, len)) (hS : fw_okS ad wr cr S st)
    (kk : ∀ st' : List Value, fw_okS ad wr cr S' st' → W p l e R s m args below meth c H locs cells slots Q (F0 m (pc + len) ls st')) : W p l e R s m args below meth c H locs cells slots Q (F0 m pc ls st) := by
  unfold fw_dv at h
  split at h
  · rename_i o9 t9 d9 s9 c9 S9 ho9
    obtain ⟨g, h⟩ := ab_cs h; cases h
    have := ab_beq g; subst this
    obtain ⟨st1, rfl, hS1⟩ := fw_pop0 hS
    obtain ⟨st2, rfl, hS2⟩ := fw_pop0 hS1
    exact ab_bo_row hx hb ho9 (fun _ => fw_nz hd) hdg (kk _ (fw_pushi hS2 (fw_op_ok _ _ _)))
  · split at h
    · rename_i o9 t9 d9 s9 c9 S9 ho9 hneg9
      obtain ⟨g, h⟩ := ab_cs h; cases h
      have := ab_beq g; subst this
      obtain ⟨st1, rfl, hS1⟩ := fw_pop1 hS
      obtain ⟨st2, rfl, hS2⟩ := fw_pop1 hS1
      exact ab_bl_row hx hb ho9 (fun _ => fw_nzl hd) hdg (kk _ (fw_pushl hS2 (fw_lop_ok _ _ _)))
    · cases h
end
end
section
/-! branches over known numbers -/
def fw_if (b : Bool) (P : Prop) : Prop := match b with
  | true => P
  | false => False
theorem fw_if_ok {b : Bool} {P : Prop} (h : fw_if b P) : b = true ∧ P := by
  cases b with
  | true => exact ⟨rfl, h⟩
  | false => exact h.elim
abbrev fw_KB : Type := Nat → List ab_AV → Prop
def fw_two (r : Nat) (x y : Int) (A B : Prop) : Prop := (ab_rel r x y → A) ∧ (ab_rel (ab_neg r) x y → B)
def fw_to (pc : Nat) (o : Int) (A : Nat → Prop) : Prop := match ab_tg pc o with
  | some n => A n
  | none => False
theorem fw_to_ok {pc : Nat} {o : Int} {A : Nat → Prop} (h : fw_to pc o A) : ∃ n : Nat, (pc : Int) + o = (n : Int) ∧ A n := by
  unfold fw_to at h
  split at h
  · rename_i n hn
    exact ⟨n, ab_tg_ok hn, h⟩
  · exact h.elim
def fw_tab (pc : Nat) (S : List ab_AV) (K : fw_KB) (x : Int) : List Int → Int → Prop
  | [], _ => True
  | o :: os, k => fw_to pc o (fun n => x = k → K n S) ∧ fw_tab pc S K x os (k + 1)
theorem fw_tab_ok {pc : Nat} {S : List ab_AV} {K : fw_KB} {x : Int} : ∀ (os : List Int) (k : Int), fw_tab pc S K x os k → ∀ (j : Nat) (o : Int), os[j]? = some o → x = k + j → ∃ n : Nat, (pc : Int) + o = (n : Int) ∧ K n S := by
  intro os
  induction os with
  | nil => intro k _ j o ho; simp at ho
  | cons o1 os ih =>
    intro k h j o ho he
    obtain ⟨h1, h2⟩ := h
    cases j with
    | zero =>
      rw [List.getElem?_cons_zero] at ho
      cases ho
      obtain ⟨n, e, hk⟩ := fw_to_ok h1
      exact ⟨n, e, hk (by omega)⟩
    | succ j =>
      rw [List.getElem?_cons_succ] at ho
      exact ih (k + 1) h2 j o ho (by omega)
def fw_lus (pc : Nat) (S : List ab_AV) (K : fw_KB) (x d : Int) : List (Int × Int) → Prop
  | [] => fw_to pc d (fun n => K n S)
  | q :: r => fw_to pc q.2 (fun n => q.1 = x → K n S) ∧ (q.1 ≠ x → fw_lus pc S K x d r)
theorem fw_lus_ok {pc : Nat} {S : List ab_AV} {K : fw_KB} {x d : Int} : ∀ (ps : List (Int × Int)), fw_lus pc S K x d ps → ∃ n : Nat, (pc : Int) + Op.lookupswitch.offset ps d x = (n : Int) ∧ K n S := by
  intro ps
  induction ps with
  | nil =>
    intro h
    have h0 := fw_to_ok h
    clear h
    obtain ⟨n, e, hk⟩ := h0
    exact ⟨n, e, hk⟩
  | cons q ps ih =>
    intro h
    obtain ⟨a, o⟩ := q
    obtain ⟨h1, h2⟩ := h
    rw [Op.lookupswitch.offset_cons]
    by_cases e : a = x
    · rw [if_pos e]
      obtain ⟨n, e1, hk⟩ := fw_to_ok h1
      exact ⟨n, e1, hk e⟩
    · rw [if_neg e]
      exact ih (h2 e)
def fw_br (pc : Nat) (i : Instr) (len : Nat) (nx : Option (Instr × Nat)) (S : List ab_AV) (K : fw_KB) : Prop := match i with
  | .goto o => fw_to pc o (fun n => fw_if (len.beq 3) (K n S))
  | .lcmp => match S, nx with
    | (1, _, d) :: (1, _, c) :: S, some (j, 3) => match ab_iz j with
      | some (r, o) => fw_to (pc + 1) o (fun n => fw_if (len.beq 1) (fw_two r (fw_d c) (fw_d d) (K n S) (K (pc + 1 + 3) S)))
      | none => False
    | _, _ => False
  | .ifnull o => match S with
    | a :: S => fw_to pc o (fun n => fw_if (len.beq 3) (match a.1 with
        | 2 => K (pc + 3) S
        | 3 => K n S
        | 4 => fw_two 2 a.2.2 0 (K n S) (K (pc + 3) S)
        | 5 => K (pc + 3) S
        | _ => False))
    | _ => False
  | .ifnonnull o => match S with
    | a :: S => fw_to pc o (fun n => fw_if (len.beq 3) (match a.1 with
        | 2 => K n S
        | 3 => K (pc + 3) S
        | 4 => fw_two 3 a.2.2 0 (K n S) (K (pc + 3) S)
        | 5 => K n S
        | _ => False))
    | _ => False
  | .if_acmp cd o => match S with
    | (4, _, d) :: (4, _, c) :: S => fw_to pc o (fun n => fw_if (len.beq 3) ((-1 ≤ c ∧ c ≤ 16 ∧ -1 ≤ d ∧ d ≤ 16) ∧ (match cd with
        | .eq => fw_two 0 c d (K n S) (K (pc + 3) S)
        | .ne => fw_two 1 c d (K n S) (K (pc + 3) S))))
    | _ => False
  | .tableswitch dflt lo hi offs => match S with
    | (0, _, c) :: S => fw_if (ab_le (hi - lo + 1) (offs.size : Int) && ab_le (offs.size : Int) (hi - lo + 1)) (fw_to pc dflt (fun n => (fw_c c < lo → K n S) ∧ (hi < fw_c c → K n S)) ∧ fw_tab pc S K (fw_c c) offs.toList lo)
    | _ => False
  | .lookupswitch dflt ps => match S with
    | (0, _, c) :: S => fw_if ((ps.toList.zip (ps.toList.drop 1)).all (fun (a, next) => a.1 < next.1)) (fw_lus pc S K (fw_c c) dflt ps.toList)
    | _ => False
  | i => match ab_ic i, S with
    | some (r, o), (0, _, d) :: (0, _, c) :: S => fw_to pc o (fun n => fw_if (len.beq 3) (fw_two r (fw_c c) (fw_c d) (K n S) (K (pc + 3) S)))
    | _, _ => match ab_iz i, S with
      | some (r, o), (0, _, c) :: S => fw_to pc o (fun n => fw_if (len.beq 3) (fw_two r (fw_c c) 0 (K n S) (K (pc + 3) S)))
      | _, _ => False
def fw_wo (wr : Nat → Nat) (c : Int) : Option Nat := match c with
  | .ofNat i => some (wr i)
  | .negSucc _ => none
theorem fw_wv (wr : Nat → Nat) (c : Int) : ab_wv wr c = va_rf (fw_wo wr c) := by
  cases c <;> rfl
theorem fw_wo_inj {wr : Nat → Nat} (hw : ∀ i j, i < 17 → j < 17 → wr i = wr j → i = j) {c d : Int} (h1 : -1 ≤ c) (h2 : c ≤ 16) (h3 : -1 ≤ d) (h4 : d ≤ 16) (h : fw_wo wr c = fw_wo wr d) : c = d := by
  cases c with
  | ofNat i =>
    cases d with
    | ofNat j =>
      have h2 : (i : Int) ≤ 16 := h2
      have h4 : (j : Int) ≤ 16 := h4
      have e := hw i j (by omega) (by omega) (Option.some.inj h)
      rw [e]
    | negSucc j => cases h
  | negSucc i =>
    cases d with
    | ofNat j => cases h
    | negSucc j =>
      have a1 : Int.negSucc i = -1 := by omega
      have a2 : Int.negSucc j = -1 := by omega
      rw [a1, a2]
section
variable {p : Program} {l : Launch} {e : Env} {R : Room} {s : State} {m : MethodId} {args : Array Value} {below : List Frame} {meth : Method} {c : Code} {H : Heap} {locs : List Loc} {cells slots : Nat} {Q : State → Prop} {cc : ByteArray} {pc : Nat} {ls : Array Slot} {st : List Value}
variable {ad wr cr : Nat → Nat} {S : List ab_AV} {i : Instr} {len : Nat} {K : fw_KB}
set_option maxHeartbeats 4000000 in
theorem fw_br_ok {nx : Option (Instr × Nat)} (hx : p.tables.exec = Jvm.exec) (hb : c.code = cc) (hw : ∀ i j, i < 17 → j < 17 → wr i = wr j → i = j) (h : fw_br pc i len nx S K) (hdg : decode cc pc = .ok (i, len)) (hnx : ∀ j n, nx = some (j, n) → decode cc (pc + 1) = .ok (j, n))
    (hS : fw_okS ad wr cr S st) (kk : ∀ (n : Nat) (S' : List ab_AV) (st' : List Value), K n S' → fw_okS ad wr cr S' st' → W p l e R s m args below meth c H locs cells slots Q (F0 m n ls st')) :
    W p l e R s m args below meth c H locs cells slots Q (F0 m pc ls st) := by
  unfold fw_br at h
  split at h
  · have h0 := fw_to_ok h
    clear h
    obtain ⟨n9, ht, h⟩ := h0
    have h0 := fw_if_ok h
    clear h
    obtain ⟨g, h⟩ := h0
    have := ab_beq g; subst this
    exact lv_goto hx hb hdg ht (kk _ _ _ h hS)
  · split at h
    · rename_i t9 d9 s9 c9 S9 j9
      split at h
      · rename_i r9 o9 hz9
        have h0 := fw_to_ok h
        clear h
        obtain ⟨n9, ht, h⟩ := h0
        have h0 := fw_if_ok h
        clear h
        obtain ⟨g, h⟩ := h0
        have := ab_beq g; subst this
        obtain ⟨st1, rfl, hS1⟩ := fw_pop1 hS
        obtain ⟨st2, rfl, hS2⟩ := fw_pop1 hS1
        refine W.lcmp hx hb hdg ?_
        exact ab_iz_row hx hb hz9 (hnx _ _ rfl) ht (fun q => kk _ _ _ (h.1 (ab_rel_cmp q)) hS2) (fun q => kk _ _ _ (h.2 (ab_rel_cmp q)) hS2)
      · exact h.elim
    · exact h.elim
  · split at h
    · rename_i a9 S9
      have h0 := fw_to_ok h
      clear h
      obtain ⟨n9, ht, h⟩ := h0
      have h0 := fw_if_ok h
      clear h
      obtain ⟨g, h⟩ := h0
      have := ab_beq g; subst this
      obtain ⟨st1, rfl, hS1⟩ := fw_pop hS
      obtain ⟨t9, s9, c9⟩ := a9
      split at h
      · rename_i e9
        have e9 : t9 = 2 := e9
        subst e9
        exact lv_ifnull hx hb hdg (kk _ _ _ h hS1)
      · rename_i e9
        have e9 : t9 = 3 := e9
        subst e9
        exact lv_ifnullN hx hb hdg ht (kk _ _ _ h hS1)
      · rename_i e9
        have e9 : t9 = 4 := e9
        subst e9
        rw [fw_V4]
        have h1 : c9 < 0 → K n9 S9 := h.1
        have h2 : 0 ≤ c9 → K (pc + 3) S9 := h.2
        cases c9 with
        | ofNat k9 => exact lv_ifnull hx hb hdg (kk _ _ _ (h2 (Int.natCast_nonneg k9)) hS1)
        | negSucc k9 => exact lv_ifnullN hx hb hdg ht (kk _ _ _ (h1 (Int.negSucc_lt_zero k9)) hS1)
      · rename_i e9
        have e9 : t9 = 5 := e9
        subst e9
        exact lv_ifnull hx hb hdg (kk _ _ _ h hS1)
      · exact h.elim
    · exact h.elim
  · split at h
    · rename_i a9 S9
      have h0 := fw_to_ok h
      clear h
      obtain ⟨n9, ht, h⟩ := h0
      have h0 := fw_if_ok h
      clear h
      obtain ⟨g, h⟩ := h0
      have := ab_beq g; subst this
      obtain ⟨st1, rfl, hS1⟩ := fw_pop hS
      obtain ⟨t9, s9, c9⟩ := a9
      split at h
      · rename_i e9
        have e9 : t9 = 2 := e9
        subst e9
        exact lv_ifnonnull hx hb hdg ht (kk _ _ _ h hS1)
      · rename_i e9
        have e9 : t9 = 3 := e9
        subst e9
        exact lv_ifnonnullN hx hb hdg (kk _ _ _ h hS1)
      · rename_i e9
        have e9 : t9 = 4 := e9
        subst e9
        rw [fw_V4]
        have h1 : 0 ≤ c9 → K n9 S9 := h.1
        have h2 : c9 < 0 → K (pc + 3) S9 := h.2
        cases c9 with
        | ofNat k9 => exact lv_ifnonnull hx hb hdg ht (kk _ _ _ (h1 (Int.natCast_nonneg k9)) hS1)
        | negSucc k9 => exact lv_ifnonnullN hx hb hdg (kk _ _ _ (h2 (Int.negSucc_lt_zero k9)) hS1)
      · rename_i e9
        have e9 : t9 = 5 := e9
        subst e9
        exact lv_ifnonnull hx hb hdg ht (kk _ _ _ h hS1)
      · exact h.elim
    · exact h.elim
  · split at h
    · rename_i cd9 o9 x9 t9 d9 s9 c9 S9
      have h0 := fw_to_ok h
      clear h
      obtain ⟨n9, ht, h⟩ := h0
      have h0 := fw_if_ok h
      clear h
      obtain ⟨g, h⟩ := h0
      have := ab_beq g; subst this
      obtain ⟨⟨b1, b2, b3, b4⟩, h⟩ := h
      obtain ⟨st1, rfl, hS1⟩ := fw_pop hS
      obtain ⟨st2, rfl, hS2⟩ := fw_pop hS1
      rw [fw_V4, fw_V4, fw_wv, fw_wv]
      cases cd9 with
      | eq => exact lv_acmp_eq hx hb hdg ht (fun q => kk _ _ _ (h.1 (fw_wo_inj hw b1 b2 b3 b4 q)) hS2) (fun q => kk _ _ _ (h.2 (fun z => q (by rw [z]))) hS2)
      | ne => exact lv_acmp_ne hx hb hdg ht (fun q => kk _ _ _ (h.1 (fun z => q (by rw [z]))) hS2) (fun q => kk _ _ _ (h.2 (fw_wo_inj hw b1 b2 b3 b4 q)) hS2)
    · exact h.elim
  · split at h
    · rename_i df9 lo9 hi9 of9 x9 s9 c9 S9
      have h0 := fw_if_ok h
      clear h
      obtain ⟨g, h0, h1⟩ := h0
      rw [Bool.and_eq_true, ab_le_iff, ab_le_iff] at g
      obtain ⟨n9, ht, h2, h3⟩ := fw_to_ok h0
      obtain ⟨st1, rfl, hS1⟩ := fw_pop0 hS
      rcases Int.lt_or_le (fw_c c9) lo9 with q1 | q1
      · exact lv_tableOut hx hb hdg (Or.inl q1) ht (kk _ _ _ (h2 q1) hS1)
      · rcases Int.lt_or_le hi9 (fw_c c9) with q2 | q2
        · exact lv_tableOut hx hb hdg (Or.inr q2) ht (kk _ _ _ (h3 q2) hS1)
        · have hj : (fw_c c9 - lo9).toNat < of9.size := by omega
          obtain ⟨n, a1, a2⟩ := fw_tab_ok of9.toList lo9 h1 (fw_c c9 - lo9).toNat of9[(fw_c c9 - lo9).toNat] (by rw [Array.getElem?_toList]; exact Array.getElem?_eq_getElem hj) (by omega)
          refine lv_tableIn (off := of9[(fw_c c9 - lo9).toNat]) hx hb hdg ?_ ?_ ?_ a1 (kk _ _ _ a2 hS1)
          · show ¬ fw_c c9 < lo9
            omega
          · show ¬ hi9 < fw_c c9
            omega
          · show of9[(fw_c c9 - lo9).toNat]? = _
            exact Array.getElem?_eq_getElem hj
    · exact h.elim
  · split at h
    · rename_i df9 ps9 x9 s9 c9 S9
      have h0 := fw_if_ok h
      clear h
      obtain ⟨g, h⟩ := h0
      obtain ⟨n9, ht, h⟩ := fw_lus_ok ps9.toList h
      obtain ⟨st1, rfl, hS1⟩ := fw_pop0 hS
      exact lv_lookup hx hb (x := Int32.ofInt c9) (off := Op.lookupswitch.offset ps9.toList df9 (fw_c c9)) hdg g rfl ht (kk _ _ _ h hS1)
    · exact h.elim
  · split at h
    · rename_i r9 o9 t9 d9 s9 c9 S9 hi9
      have h0 := fw_to_ok h
      clear h
      obtain ⟨n9, ht, h⟩ := h0
      have h0 := fw_if_ok h
      clear h
      obtain ⟨g, h⟩ := h0
      have := ab_beq g; subst this
      obtain ⟨st1, rfl, hS1⟩ := fw_pop0 hS
      obtain ⟨st2, rfl, hS2⟩ := fw_pop0 hS1
      exact ab_ic_row hx hb hi9 hdg ht (fun q => kk _ _ _ (h.1 q) hS2) (fun q => kk _ _ _ (h.2 q) hS2)
    · split at h
      · rename_i r9 o9 s9 c9 S9 hi9 hneg9
        have h0 := fw_to_ok h
        clear h
        obtain ⟨n9, ht, h⟩ := h0
        have h0 := fw_if_ok h
        clear h
        obtain ⟨g, h⟩ := h0
        have := ab_beq g; subst this
        obtain ⟨st1, rfl, hS1⟩ := fw_pop0 hS
        exact ab_iz_row hx hb hi9 hdg ht (fun q => kk _ _ _ (h.1 q) hS1) (fun q => kk _ _ _ (h.2 q) hS1)
      · exact h.elim
end
end
section
/-! the world's numbers read and written, over known numbers -/
abbrev fw_KH : Type := List ab_AV → ab_SG → Prop
def fw_ald (sh : List ab_SP) (t tag len : Nat) (S : List ab_AV) (σ : ab_SG) (K : fw_KH) : Prop := match S with
  | (0, _, x) :: (2, k, _) :: S => match ab_arr sh t k with
    | some n => fw_if (len.beq 1 && n.ble 2147483647) ((0 ≤ fw_c x ∧ fw_c x < (n : Int)) ∧ K ((tag, 0, σ k (fw_c x).toNat) :: S) σ)
    | none => False
  | _ => False
def fw_sv (t : Nat) (v : Int) : Int := match t with
  | 1 => fw_d v
  | 2 => fw_b v
  | _ => fw_c v
def fw_so (t : Nat) (v : Int) : Prop := match t with
  | 3 => 0 ≤ fw_c v ∧ fw_c v ≤ 1
  | _ => True
def fw_ast (sh : List ab_SP) (t tag len : Nat) (S : List ab_AV) (σ : ab_SG) (K : fw_KH) : Prop := match S with
  | (tg, _, v) :: (0, _, x) :: (2, k, _) :: S => match ab_arr sh t k with
    | some n => fw_if (len.beq 1 && n.ble 2147483647 && tg.beq tag) ((0 ≤ fw_c x ∧ fw_c x < (n : Int)) ∧ fw_so t v ∧ K S (ab_ups σ k (fw_c x).toNat (fw_sv t v)))
    | none => False
  | _ => False
/-- an array's type: a cell's -/
def fw_ty (sh : List ab_SP) (k : Nat) : Nat := match sh[k]? with
  | some (.inr a) => a.1
  | _ => 9
def fw_hp (cl : List vw_C) (sh : List ab_SP) (PF : ab_PT) (i : Instr) (len : Nat) (S : List ab_AV) (σ : ab_SG) (K : fw_KH) : Prop := match i with
  | .getfield x => match S with
    | (2, k, _) :: S => match ab_pf PF x, sh[k]? with
      | some (ci, j, _), some (.inl (cj, fs)) => match fs[j]? with
        | some f => fw_if (len.beq 3 && ci.beq cj) (match f.1 with
          | 0 => K ((0, 0, σ k j) :: S) σ
          | 1 => K ((1, 0, σ k j) :: S) σ
          | 2 => K ((2, f.2, 0) :: S) σ
          | 3 => K ((3, 0, 0) :: S) σ
          | _ => K ((4, 0, σ k j) :: S) σ)
        | none => False
      | _, _ => False
    | _ => False
  | .putfield x => match S with
    | v :: (2, k, _) :: S => match ab_pf PF x, sh[k]? with
      | some (ci, j, ty), some (.inl (cj, fs)) => match fs[j]? with
        | some f => fw_if (len.beq 3 && ci.beq cj && ab_fin cl ci j) (match f.1, ty, v with
          | 0, 0, (0, _, c) => K S (ab_ups σ k j (fw_c c))
          | 0, 3, (0, _, c) => (0 ≤ fw_c c ∧ fw_c c ≤ 1) ∧ K S (ab_ups σ k j (fw_c c))
          | 1, 1, (1, _, c) => K S (ab_ups σ k j (fw_d c))
          | 4, 4, (4, _, c) => K S (ab_ups σ k j c)
          | 4, 4, (3, _, _) => K S (ab_ups σ k j (-1))
          | _, _, _ => False)
        | none => False
      | _, _ => False
    | _ => False
  | .iaload => fw_ald sh 0 0 len S σ K
  | .laload => fw_ald sh 1 1 len S σ K
  | .baload => match S with
    | _ :: (2, k, _) :: _ => fw_if ((fw_ty sh k).beq 2 || (fw_ty sh k).beq 3) (fw_ald sh (fw_ty sh k) 0 len S σ K)
    | _ => False
  | .iastore => fw_ast sh 0 0 len S σ K
  | .lastore => fw_ast sh 1 1 len S σ K
  | .bastore => match S with
    | _ :: _ :: (2, k, _) :: _ => fw_if ((fw_ty sh k).beq 2 || (fw_ty sh k).beq 3) (fw_ast sh (fw_ty sh k) 0 len S σ K)
    | _ => False
  | .arraylength => match S with
    | (2, k, _) :: S => match sh[k]? with
      | some (.inr a) => fw_if (len.beq 1 && a.1.ble 3) (K ((0, 0, (a.2 : Int)) :: S) σ)
      | _ => False
    | _ => False
  | _ => False
section
variable {p : Program} {l : Launch} {e : Env} {R : Room} {s : State} {m : MethodId} {args : Array Value} {below : List Frame} {meth : Method} {c : Code} {H : Heap} {locs : List Loc} {cells slots : Nat} {Q : State → Prop} {cc : ByteArray} {pc : Nat} {ls : Array Slot} {st : List Value}
variable {ad wr cr : Nat → Nat} {cy : Nat → ClassId} {S : List ab_AV} {own : String} {i : Instr} {len : Nat} {D : va_G} {cl : List vw_C} {sh : List ab_SP} {A : Nat → Prop} {H0 : Heap} {Ts : List Jvm.Cond} {PF : ab_PT} {σ : ab_SG} {K : fw_KH}
theorem fw_idx {x : Int} {n : Nat} (hn : n.ble 2147483647 = true) (h : 0 ≤ fw_c x ∧ fw_c x < (n : Int)) : vp_in (Int32.ofInt x) n ∧ (Int32.ofInt x).toNatClampNeg = (fw_c x).toNat := by
  have h9 := Nat.le_of_ble_eq_true hn
  obtain ⟨g1, g2⟩ := ab_idx (x := fw_c x) (n := n) h.1 h.2 (by omega)
  rw [fw_c_of] at g1 g2
  exact ⟨g1, g2⟩
/-- what follows a step that touches the heap -/
def fw_go (p : Program) (l : Launch) (e : Env) (R : Room) (s : State) (m : MethodId) (args : Array Value) (below : List Frame) (meth : Method) (c : Code) (cells slots : Nat) (Q : State → Prop) (ad wr cr : Nat → Nat) (cy : Nat → ClassId) (D : va_G) (cl : List vw_C) (sh : List ab_SP) (A : Nat → Prop) (H0 : Heap) (K : fw_KH) (pc : Nat) (ls : Array Slot) : Prop :=
  ∀ (S' : List ab_AV) (σ' : ab_SG) (H' : Heap) (locs' : List Loc) (st' : List Value), K S' σ' → va_P D cl (ab_WD cy ad wr sh σ') H' → va_S A H0 H' locs' → fw_okS ad wr cr S' st' → W p l e R s m args below meth c H' locs' cells slots Q (F0 m pc ls st')
theorem fw_ald_ok {t tag : Nat} (htt : (t = 0 ∧ tag = 0 ∧ i = .iaload) ∨ (t = 1 ∧ tag = 1 ∧ i = .laload) ∨ (tag = 0 ∧ i = .baload)) (hx : p.tables.exec = Jvm.exec) (hb : c.code = cc) (hKK : va_K D cl (ab_tys cy) s)
    (hty : i = .baload → t = 2 ∨ t = 3) (h : fw_ald sh t tag len S σ K) (hdg : decode cc pc = .ok (i, len)) (hS : fw_okS ad wr cr S st) (hP : va_P D cl (ab_WD cy ad wr sh σ) H) (hSS : va_S A H0 H locs)
    (kk : fw_go p l e R s m args below meth c cells slots Q ad wr cr cy D cl sh A H0 K (pc + len) ls) : W p l e R s m args below meth c H locs cells slots Q (F0 m pc ls st) := by
  unfold fw_ald at h
  split at h
  · rename_i s9 x9 k9 z9 S9
    split at h
    · rename_i n9 hn9
      have h0 := fw_if_ok h
      clear h
      obtain ⟨g, hin, h⟩ := h0
      rw [Bool.and_eq_true] at g
      have := ab_beq g.1; subst this
      obtain ⟨st1, rfl, hS1⟩ := fw_pop0 hS
      obtain ⟨st2, rfl, hS2⟩ := fw_pop hS1
      obtain ⟨i1, i2⟩ := fw_idx g.2 hin
      have ha := ab_WD_get (cy := cy) (ad := ad) (wr := wr) (σ := σ) (ab_arr_ok hn9)
      rcases htt with ⟨rfl, rfl, rfl⟩ | ⟨rfl, rfl, rfl⟩ | ⟨rfl, rfl⟩
      · refine va_iald hx hb hKK hP k9 0 ha rfl i1 hdg ?_
        show W _ _ _ _ _ _ _ _ _ _ _ _ _ _ _ (F0 m (pc + 1) ls (.int (Int32.ofInt (σ k9 (Int32.ofInt x9).toNatClampNeg)) :: st2))
        rw [i2]
        exact kk _ σ H locs _ h hP hSS (fw_push0 hS2)
      · refine va_lald hx hb hKK hP k9 1 ha rfl i1 hdg ?_
        show W _ _ _ _ _ _ _ _ _ _ _ _ _ _ _ (F0 m (pc + 1) ls (.long (Int64.ofInt (σ k9 (Int32.ofInt x9).toNatClampNeg)) :: st2))
        rw [i2]
        exact kk _ σ H locs _ h hP hSS (fw_push1 hS2)
      · rcases hty rfl with rfl | rfl
        · refine va_bald hx hb hKK hP k9 2 ha rfl i1 hdg ?_
          show W _ _ _ _ _ _ _ _ _ _ _ _ _ _ _ (F0 m (pc + 1) ls (.int (Int32.ofInt (σ k9 (Int32.ofInt x9).toNatClampNeg)) :: st2))
          rw [i2]
          exact kk _ σ H locs _ h hP hSS (fw_push0 hS2)
        · refine va_zald hx hb hKK hP k9 3 ha rfl i1 hdg ?_
          show W _ _ _ _ _ _ _ _ _ _ _ _ _ _ _ (F0 m (pc + 1) ls (.int (Int32.ofInt (σ k9 (Int32.ofInt x9).toNatClampNeg)) :: st2))
          rw [i2]
          exact kk _ σ H locs _ h hP hSS (fw_push0 hS2)
    · exact h.elim
  · exact h.elim
theorem fw_b_of (v : Int) : Int32.ofInt (fw_b v) = vp_nar .byte (Int32.ofInt v) := by
  unfold fw_b
  rw [vp_nar_byte, Int32.ofInt_toInt, Int32.toInt8_ofInt]
theorem fw_z_of {v : Int} (h : 0 ≤ fw_c v ∧ fw_c v ≤ 1) : Int32.ofInt (fw_c v) = vp_nar .boolean (Int32.ofInt v) := by
  rw [← ab_nar_z h.1 h.2, fw_c_of]
theorem fw_ast_ok {t tag : Nat} (htt : (t = 0 ∧ tag = 0 ∧ i = .iastore) ∨ (t = 1 ∧ tag = 1 ∧ i = .lastore) ∨ (tag = 0 ∧ i = .bastore)) (hx : p.tables.exec = Jvm.exec) (hb : c.code = cc) (hKK : va_K D cl (ab_tys cy) s) (hD : ∀ σ, va_D A (ab_WD cy ad wr sh σ))
    (hty : i = .bastore → t = 2 ∨ t = 3) (h : fw_ast sh t tag len S σ K) (hdg : decode cc pc = .ok (i, len)) (hS : fw_okS ad wr cr S st) (hP : va_P D cl (ab_WD cy ad wr sh σ) H) (hSS : va_S A H0 H locs)
    (kk : fw_go p l e R s m args below meth c cells slots Q ad wr cr cy D cl sh A H0 K (pc + len) ls) : W p l e R s m args below meth c H locs cells slots Q (F0 m pc ls st) := by
  unfold fw_ast at h
  split at h
  · rename_i tg9 w9 v9 s9 x9 k9 z9 S9
    split at h
    · rename_i n9 hn9
      have h0 := fw_if_ok h
      clear h
      obtain ⟨g, hin, hso, h⟩ := h0
      rw [Bool.and_eq_true, Bool.and_eq_true] at g
      have := ab_beq g.1.1; subst this
      have := ab_beq g.2; subst this
      obtain ⟨i1, i2⟩ := fw_idx g.1.2 hin
      have hsh := ab_arr_ok hn9
      have ha := ab_WD_get (cy := cy) (ad := ad) (wr := wr) (σ := σ) hsh
      have fin : ∀ (H1 : Heap) (locs1 : List Loc) (x : va_E) (st3 : List Value), fw_okS ad wr cr S9 st3 → x = ab_cell cy ad wr (.inr (t, n9)) (ab_ups σ k9 (fw_c x9).toNat (fw_sv t v9) k9) → va_P D cl ((ab_WD cy ad wr sh σ).set k9 (ad k9, x)) H1 → va_S A H0 H1 locs1 → W p l e R s m args below meth c H1 locs1 cells slots Q (F0 m (pc + 1) ls st3) := by
        intro H1 locs1 x st3 hS3 hx1 hP1 hS1'
        rw [ab_WD_set (σ' := ab_ups σ k9 (fw_c x9).toNat (fw_sv t v9)) hsh hx1 (fun a ha9 => ab_ups_row ha9)] at hP1
        exact kk _ _ H1 locs1 st3 h hP1 hS1' hS3
      rcases htt with ⟨rfl, rfl, rfl⟩ | ⟨rfl, rfl, rfl⟩ | ⟨rfl, rfl⟩
      · obtain ⟨st1, rfl, hS1⟩ := fw_pop0 hS
        obtain ⟨st2, rfl, hS2⟩ := fw_pop0 hS1
        obtain ⟨st3, rfl, hS3⟩ := fw_pop hS2
        refine va_iast hx hb hKK hP (hD σ) hSS k9 0 ha rfl i1 hdg (fun H1 locs1 hP1 _ hS1' => fin H1 locs1 _ st3 hS3 ?_ hP1 hS1')
        show _ = Sum.inl (cy 0, (n9, Sum.inl (fun j => Int32.ofInt (ab_ups σ k9 (fw_c x9).toNat (fw_c v9) k9 j))))
        rw [ab_row32, i2, fw_c_of]
      · obtain ⟨st1, rfl, hS1⟩ := fw_pop1 hS
        obtain ⟨st2, rfl, hS2⟩ := fw_pop0 hS1
        obtain ⟨st3, rfl, hS3⟩ := fw_pop hS2
        refine va_last hx hb hKK hP (hD σ) hSS k9 1 ha rfl i1 hdg (fun H1 locs1 hP1 _ hS1' => fin H1 locs1 _ st3 hS3 ?_ hP1 hS1')
        show _ = Sum.inl (cy 1, (n9, Sum.inr (Sum.inl (fun j => Int64.ofInt (ab_ups σ k9 (fw_c x9).toNat (fw_d v9) k9 j)))))
        rw [ab_row64, i2, fw_d_of]
      · obtain ⟨st1, rfl, hS1⟩ := fw_pop0 hS
        obtain ⟨st2, rfl, hS2⟩ := fw_pop0 hS1
        obtain ⟨st3, rfl, hS3⟩ := fw_pop hS2
        rcases hty rfl with rfl | rfl
        · refine va_bast hx hb hKK hP (hD σ) hSS k9 2 ha rfl i1 hdg (fun H1 locs1 hP1 _ hS1' => fin H1 locs1 _ st3 hS3 ?_ hP1 hS1')
          show _ = Sum.inl (cy 2, (n9, Sum.inl (fun j => Int32.ofInt (ab_ups σ k9 (fw_c x9).toNat (fw_b v9) k9 j))))
          rw [ab_row32, i2, fw_b_of]
        · refine va_zast hx hb hKK hP (hD σ) hSS k9 3 ha rfl i1 hdg (fun H1 locs1 hP1 _ hS1' => fin H1 locs1 _ st3 hS3 ?_ hP1 hS1')
          show _ = Sum.inl (cy 3, (n9, Sum.inl (fun j => Int32.ofInt (ab_ups σ k9 (fw_c x9).toNat (fw_c v9) k9 j))))
          rw [ab_row32, i2, fw_z_of hso]
    · exact h.elim
  · exact h.elim
theorem fw_put_ok {x k ci j ty : Nat} {fs : List (Nat × Nat)} {f : Nat × Nat} {v : ab_AV} {y : Int} {z : Int} {S9 : List ab_AV} (hx : p.tables.exec = Jvm.exec) (hb : c.code = cc) (hown : s.vm.findClass own = some m.cls) (hts : ∀ w ∈ Ts, w.before args s = true) (hKK : va_K D cl (ab_tys cy) s) (hD : ∀ σ, va_D A (ab_WD cy ad wr sh σ)) (hPF : ∀ q ∈ PF, ab_fok cl Ts own q)
    (h1 : ab_pf PF x = some (ci, j, ty)) (h2 : sh[k]? = some (.inl (ci, fs))) (h3 : fs[j]? = some f) (hf : ab_fin cl ci j = true) (hdg : decode cc pc = .ok (.putfield x, 3)) (hS : fw_okS ad wr cr (v :: (2, k, z) :: S9) st) (hP : va_P D cl (ab_WD cy ad wr sh σ) H) (hSS : va_S A H0 H locs)
    (hv : ab_V ad wr cr fw_z v = ab_fv ad wr f y) (hn : narrow (ab_ft ty) (ab_fv ad wr f y) = ab_fv ad wr f y) (hfit : fits (ab_ft ty) (ab_fv ad wr f y) = true) (h : K S9 (ab_ups σ k j y))
    (kk : fw_go p l e R s m args below meth c cells slots Q ad wr cr cy D cl sh A H0 K (pc + 3) ls) : W p l e R s m args below meth c H locs cells slots Q (F0 m pc ls st) := by
  obtain ⟨st1, rfl, hS1⟩ := fw_pop hS
  obtain ⟨st2, rfl, hS2⟩ := fw_pop hS1
  rw [hv]
  exact ab_putf_ok (σ := σ) hx hb hown hts hKK hD hPF h1 h2 h3 hf hn hfit hdg hP hSS (fun H1 locs1 hP1 hS1' => kk _ _ H1 locs1 st2 h hP1 hS1' hS2)
set_option maxHeartbeats 4000000 in
theorem fw_hp_ok (hx : p.tables.exec = Jvm.exec) (hb : c.code = cc) (hown : s.vm.findClass own = some m.cls) (hts : ∀ w ∈ Ts, w.before args s = true) (hKK : va_K D cl (ab_tys cy) s) (hD : ∀ σ, va_D A (ab_WD cy ad wr sh σ)) (hPF : ∀ q ∈ PF, ab_fok cl Ts own q)
    (h : fw_hp cl sh PF i len S σ K) (hdg : decode cc pc = .ok (i, len)) (hS : fw_okS ad wr cr S st) (hP : va_P D cl (ab_WD cy ad wr sh σ) H) (hSS : va_S A H0 H locs)
    (kk : fw_go p l e R s m args below meth c cells slots Q ad wr cr cy D cl sh A H0 K (pc + len) ls) : W p l e R s m args below meth c H locs cells slots Q (F0 m pc ls st) := by
  unfold fw_hp at h
  split at h
  · split at h
    · rename_i x9 w9 k9 z9 S9
      split at h
      · rename_i ci9 j9 ty9 cj9 fs9 h1 h2
        split at h
        · rename_i f9 h3
          have h0 := fw_if_ok h
          clear h
          obtain ⟨g, h⟩ := h0
          rw [Bool.and_eq_true] at g
          have := ab_beq g.1; subst this
          have := ab_beq g.2; subst this
          obtain ⟨f1, f2⟩ := f9
          obtain ⟨st1, rfl, hS1⟩ := fw_pop hS
          match f1, h, h3 with
          | 0, h, h3 => exact ab_getf_ok (σ := σ) hx hb hown hts hKK hPF h1 h2 h3 hdg hP (kk _ σ H locs _ h hP hSS (fw_push0 hS1))
          | 1, h, h3 => exact ab_getf_ok (σ := σ) hx hb hown hts hKK hPF h1 h2 h3 hdg hP (kk _ σ H locs _ h hP hSS (fw_push1 hS1))
          | 2, h, h3 => exact ab_getf_ok (σ := σ) hx hb hown hts hKK hPF h1 h2 h3 hdg hP (kk _ σ H locs _ h hP hSS (fw_push (a := (2, f2, 0)) hS1))
          | 3, h, h3 => exact ab_getf_ok (σ := σ) hx hb hown hts hKK hPF h1 h2 h3 hdg hP (kk _ σ H locs _ h hP hSS (fw_push (a := (3, 0, 0)) hS1))
          | n + 4, h, h3 =>
            have hk := kk _ σ H locs _ h hP hSS (fw_push (a := (4, 0, σ k9 j9)) hS1)
            rw [fw_V4] at hk
            exact ab_getf_ok (σ := σ) hx hb hown hts hKK hPF h1 h2 h3 hdg hP hk
        · exact h.elim
      · exact h.elim
    · exact h.elim
  · split at h
    · rename_i x9 w9 v9 k9 z9 S9
      split at h
      · rename_i ci9 j9 ty9 cj9 fs9 h1 h2
        split at h
        · rename_i f9 h3
          have h0 := fw_if_ok h
          clear h
          obtain ⟨g, h⟩ := h0
          rw [Bool.and_eq_true, Bool.and_eq_true] at g
          have := ab_beq g.1.1; subst this
          have := ab_beq g.1.2; subst this
          obtain ⟨f1, f2⟩ := f9
          split at h
          · rename_i e1
            have e1 : f1 = 0 := e1
            subst e1
            exact fw_put_ok hx hb hown hts hKK hD hPF h1 h2 h3 g.2 hdg hS hP hSS (by rw [fw_V0]; show _ = Value.int (Int32.ofInt _); rw [fw_c_of]) rfl rfl h kk
          · rename_i e1
            have e1 : f1 = 0 := e1
            subst e1
            obtain ⟨z1, z2⟩ := ab_nar_zv h.1.1 h.1.2
            exact fw_put_ok hx hb hown hts hKK hD hPF h1 h2 h3 g.2 hdg hS hP hSS (by rw [fw_V0]; show _ = Value.int (Int32.ofInt _); rw [fw_c_of]) z1 z2 h.2 kk
          · rename_i e1
            have e1 : f1 = 1 := e1
            subst e1
            exact fw_put_ok hx hb hown hts hKK hD hPF h1 h2 h3 g.2 hdg hS hP hSS (by rw [fw_V1]; show _ = Value.long (Int64.ofInt _); rw [fw_d_of]) rfl rfl h kk
          · rename_i s9 c9 e1
            have e1 : f1 = 4 := e1
            subst e1
            exact fw_put_ok (y := c9) hx hb hown hts hKK hD hPF h1 h2 h3 g.2 hdg hS hP hSS (by rw [fw_V4]; rfl) (by show narrow (.object _) (ab_wv wr c9) = ab_wv wr c9; cases c9 <;> rfl) (by show fits (.object _) (ab_wv wr c9) = true; cases c9 <;> rfl) h kk
          · rename_i e1
            have e1 : f1 = 4 := e1
            subst e1
            exact fw_put_ok (y := -1) hx hb hown hts hKK hD hPF h1 h2 h3 g.2 hdg hS hP hSS rfl rfl rfl h kk
          · exact h.elim
        · exact h.elim
      · exact h.elim
    · exact h.elim
  · exact fw_ald_ok (Or.inl ⟨rfl, rfl, rfl⟩) hx hb hKK (fun q => by cases q) h hdg hS hP hSS kk
  · exact fw_ald_ok (Or.inr (Or.inl ⟨rfl, rfl, rfl⟩)) hx hb hKK (fun q => by cases q) h hdg hS hP hSS kk
  · split at h
    · have h0 := fw_if_ok h
      clear h
      obtain ⟨g, h⟩ := h0
      rw [Bool.or_eq_true] at g
      exact fw_ald_ok (Or.inr (Or.inr ⟨rfl, rfl⟩)) hx hb hKK (fun _ => g.imp ab_beq ab_beq) h hdg hS hP hSS kk
    · exact h.elim
  · exact fw_ast_ok (Or.inl ⟨rfl, rfl, rfl⟩) hx hb hKK hD (fun q => by cases q) h hdg hS hP hSS kk
  · exact fw_ast_ok (Or.inr (Or.inl ⟨rfl, rfl, rfl⟩)) hx hb hKK hD (fun q => by cases q) h hdg hS hP hSS kk
  · split at h
    · have h0 := fw_if_ok h
      clear h
      obtain ⟨g, h⟩ := h0
      rw [Bool.or_eq_true] at g
      exact fw_ast_ok (Or.inr (Or.inr ⟨rfl, rfl⟩)) hx hb hKK hD (fun _ => g.imp ab_beq ab_beq) h hdg hS hP hSS kk
    · exact h.elim
  · split at h
    · rename_i k9 z9 S9
      split at h
      · rename_i a9 h1
        have h0 := fw_if_ok h
        clear h
        obtain ⟨g, h⟩ := h0
        rw [Bool.and_eq_true] at g
        have := ab_beq g.1; subst this
        obtain ⟨st1, rfl, hS1⟩ := fw_pop hS
        obtain ⟨a1, a2⟩ := a9
        have ha := ab_WD_get (cy := cy) (ad := ad) (wr := wr) (σ := σ) h1
        have h3 : a1 ≤ 3 := Nat.le_of_ble_eq_true g.2
        have hk := kk _ σ H locs _ h hP hSS (fw_push0 (c := (a2 : Int)) hS1)
        match a1, h3 with
        | 0, _ => exact va_alen hx hb hKK hP k9 0 ha rfl rfl hdg hk
        | 1, _ => exact va_alen hx hb hKK hP k9 1 ha rfl rfl hdg hk
        | 2, _ => exact va_alen hx hb hKK hP k9 2 ha rfl rfl hdg hk
        | 3, _ => exact va_alen hx hb hKK hP k9 3 ha rfl rfl hdg hk
      · exact h.elim
    · exact h.elim
  · exact h.elim
end
end
