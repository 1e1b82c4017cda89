def tt_mu : ab_M3 := ((1000000000000, [], []), (0, [], []), (0, [], []))
def tt_c1 : ab_CN := ([(2, 1, 0)], [(0, 0)], [], [], [([(0, 1, 0)], [(0, 0), (0, 1)], [], [], [])])
theorem tt_k1 : nn_ck vwCl nn_T nn_C nn_sh nn_MT "NameNotes$Tape" (nn_KI2.map (fun x => x.1)) (nn_KJ2.map (fun x => x.1)) (nn_PF2.map (fun x => x.1)) (nn_PM2.map (fun x => x.1)) [] 0 1 100 [] [] tt_mu tt_c1 [] = true := by decide +kernel
/-- append: four bytes more, with room -/
def tt_c2 : ab_CN := ([(2, 1, 0), (0, 1, 0)], [(0, 0), (-2147483648, 2147483647), (0, 936)], [], [((1, 1), (2, 0))], [([], [(0, 0), (-2147483648, 2147483647), (0, 936)], [], [((1, 1), (2, 4))], [(1, 1), (2, 1000000)])])
theorem tt_k2 : nn_ck vwCl nn_T nn_C nn_sh nn_MT "NameNotes$Tape" (nn_KI2.map (fun x => x.1)) (nn_KJ2.map (fun x => x.1)) (nn_PF2.map (fun x => x.1)) (nn_PM2.map (fun x => x.1)) [] 0 2 300 [] [] tt_mu tt_c2 [] = true := by decide +kernel
