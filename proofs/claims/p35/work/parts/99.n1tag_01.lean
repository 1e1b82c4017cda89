/-! contracts of the class by constants -/
/-- NameNotes.part  -/
def le_844 : ab_CN := ([(1, 0, 46656), (1, 0, 59049), (0, 0, 0)], [(0, 0)], [], [], [([(1, 0, 64)], [(0, 0)], [], [], [])])
theorem lf_844 (l : Launch) (cy : Nat → ClassId) (ad wr cr : Nat → Nat) (D : va_G) (hinj : nn_inj ad) : nn_H l cy ad wr cr D (193, 0, le_844) := nn_hold (fuel := 122) (sp := []) (HD := []) (HN := []) (mu := ((0, [], []), (0, [], []), (0, [], []))) (KS := []) (NS := []) hinj nn_MT_code nn_KI1_ok nn_KJ1_ok nn_PF1_ok nn_PS1_ok nn_PM1_ok (fun _ h => absurd h List.not_mem_nil) (by decide +kernel)
/-- NameNotes.part  -/
def le_845 : ab_CN := ([(1, 0, 35721), (1, 0, 59049), (0, 0, 1)], [(0, 0)], [], [], [([(1, 0, 81)], [(0, 0)], [], [], [])])
theorem lf_845 (l : Launch) (cy : Nat → ClassId) (ad wr cr : Nat → Nat) (D : va_G) (hinj : nn_inj ad) : nn_H l cy ad wr cr D (193, 0, le_845) := nn_hold (fuel := 137) (sp := []) (HD := []) (HN := []) (mu := ((0, [], []), (0, [], []), (0, [], []))) (KS := []) (NS := []) hinj nn_MT_code nn_KI1_ok nn_KJ1_ok nn_PF1_ok nn_PS1_ok nn_PM1_ok (fun _ h => absurd h List.not_mem_nil) (by decide +kernel)
/-- NameNotes.part  -/
def le_846 : ab_CN := ([(1, 0, 35721), (1, 0, 59049), (0, 0, 0)], [(0, 0)], [], [], [([(1, 0, 49)], [(0, 0)], [], [], [])])
theorem lf_846 (l : Launch) (cy : Nat → ClassId) (ad wr cr : Nat → Nat) (D : va_G) (hinj : nn_inj ad) : nn_H l cy ad wr cr D (193, 0, le_846) := nn_hold (fuel := 138) (sp := []) (HD := []) (HN := []) (mu := ((0, [], []), (0, [], []), (0, [], []))) (KS := []) (NS := []) hinj nn_MT_code nn_KI1_ok nn_KJ1_ok nn_PF1_ok nn_PS1_ok nn_PM1_ok (fun _ h => absurd h List.not_mem_nil) (by decide +kernel)
/-- NameNotes.part  -/
def le_847 : ab_CN := ([(1, 0, 18225), (1, 0, 59049), (0, 0, 1)], [(0, 0)], [], [], [([(1, 0, 81)], [(0, 0)], [], [], [])])
theorem lf_847 (l : Launch) (cy : Nat → ClassId) (ad wr cr : Nat → Nat) (D : va_G) (hinj : nn_inj ad) : nn_H l cy ad wr cr D (193, 0, le_847) := nn_hold (fuel := 89) (sp := []) (HD := []) (HN := []) (mu := ((0, [], []), (0, [], []), (0, [], []))) (KS := []) (NS := []) hinj nn_MT_code nn_KI1_ok nn_KJ1_ok nn_PF1_ok nn_PS1_ok nn_PM1_ok (fun _ h => absurd h List.not_mem_nil) (by decide +kernel)
/-- NameNotes.part  -/
def le_848 : ab_CN := ([(1, 0, 18225), (1, 0, 59049), (0, 0, 0)], [(0, 0)], [], [], [([(1, 0, 25)], [(0, 0)], [], [], [])])
theorem lf_848 (l : Launch) (cy : Nat → ClassId) (ad wr cr : Nat → Nat) (D : va_G) (hinj : nn_inj ad) : nn_H l cy ad wr cr D (193, 0, le_848) := nn_hold (fuel := 90) (sp := []) (HD := []) (HN := []) (mu := ((0, [], []), (0, [], []), (0, [], []))) (KS := []) (NS := []) hinj nn_MT_code nn_KI1_ok nn_KJ1_ok nn_PF1_ok nn_PS1_ok nn_PM1_ok (fun _ h => absurd h List.not_mem_nil) (by decide +kernel)
/-- NameNotes.part  -/
def le_849 : ab_CN := ([(1, 0, 11664), (1, 0, 59049), (0, 0, 1)], [(0, 0)], [], [], [([(1, 0, 81)], [(0, 0)], [], [], [])])
theorem lf_849 (l : Launch) (cy : Nat → ClassId) (ad wr cr : Nat → Nat) (D : va_G) (hinj : nn_inj ad) : nn_H l cy ad wr cr D (193, 0, le_849) := nn_hold (fuel := 73) (sp := []) (HD := []) (HN := []) (mu := ((0, [], []), (0, [], []), (0, [], []))) (KS := []) (NS := []) hinj nn_MT_code nn_KI1_ok nn_KJ1_ok nn_PF1_ok nn_PS1_ok nn_PM1_ok (fun _ h => absurd h List.not_mem_nil) (by decide +kernel)
/-- NameNotes.part  -/
def le_850 : ab_CN := ([(1, 0, 11664), (1, 0, 59049), (0, 0, 0)], [(0, 0)], [], [], [([(1, 0, 16)], [(0, 0)], [], [], [])])
theorem lf_850 (l : Launch) (cy : Nat → ClassId) (ad wr cr : Nat → Nat) (D : va_G) (hinj : nn_inj ad) : nn_H l cy ad wr cr D (193, 0, le_850) := nn_hold (fuel := 74) (sp := []) (HD := []) (HN := []) (mu := ((0, [], []), (0, [], []), (0, [], []))) (KS := []) (NS := []) hinj nn_MT_code nn_KI1_ok nn_KJ1_ok nn_PF1_ok nn_PS1_ok nn_PM1_ok (fun _ h => absurd h List.not_mem_nil) (by decide +kernel)
/-- NameNotes.part  -/
def le_851 : ab_CN := ([(1, 0, 2916), (1, 0, 59049), (0, 0, 1)], [(0, 0)], [], [], [([(1, 0, 81)], [(0, 0)], [], [], [])])
theorem lf_851 (l : Launch) (cy : Nat → ClassId) (ad wr cr : Nat → Nat) (D : va_G) (hinj : nn_inj ad) : nn_H l cy ad wr cr D (193, 0, le_851) := nn_hold (fuel := 73) (sp := []) (HD := []) (HN := []) (mu := ((0, [], []), (0, [], []), (0, [], []))) (KS := []) (NS := []) hinj nn_MT_code nn_KI1_ok nn_KJ1_ok nn_PF1_ok nn_PS1_ok nn_PM1_ok (fun _ h => absurd h List.not_mem_nil) (by decide +kernel)
/-- NameNotes.part  -/
def le_852 : ab_CN := ([(1, 0, 2916), (1, 0, 59049), (0, 0, 0)], [(0, 0)], [], [], [([(1, 0, 4)], [(0, 0)], [], [], [])])
theorem lf_852 (l : Launch) (cy : Nat → ClassId) (ad wr cr : Nat → Nat) (D : va_G) (hinj : nn_inj ad) : nn_H l cy ad wr cr D (193, 0, le_852) := nn_hold (fuel := 74) (sp := []) (HD := []) (HN := []) (mu := ((0, [], []), (0, [], []), (0, [], []))) (KS := []) (NS := []) hinj nn_MT_code nn_KI1_ok nn_KJ1_ok nn_PF1_ok nn_PS1_ok nn_PM1_ok (fun _ h => absurd h List.not_mem_nil) (by decide +kernel)
/-- NameNotes.part  -/
def le_853 : ab_CN := ([(1, 0, 729), (1, 0, 59049), (0, 0, 1)], [(0, 0)], [], [], [([(1, 0, 81)], [(0, 0)], [], [], [])])
theorem lf_853 (l : Launch) (cy : Nat → ClassId) (ad wr cr : Nat → Nat) (D : va_G) (hinj : nn_inj ad) : nn_H l cy ad wr cr D (193, 0, le_853) := nn_hold (fuel := 57) (sp := []) (HD := []) (HN := []) (mu := ((0, [], []), (0, [], []), (0, [], []))) (KS := []) (NS := []) hinj nn_MT_code nn_KI1_ok nn_KJ1_ok nn_PF1_ok nn_PS1_ok nn_PM1_ok (fun _ h => absurd h List.not_mem_nil) (by decide +kernel)
/-- NameNotes.part  -/
def le_854 : ab_CN := ([(1, 0, 729), (1, 0, 59049), (0, 0, 0)], [(0, 0)], [], [], [([(1, 0, 1)], [(0, 0)], [], [], [])])
theorem lf_854 (l : Launch) (cy : Nat → ClassId) (ad wr cr : Nat → Nat) (D : va_G) (hinj : nn_inj ad) : nn_H l cy ad wr cr D (193, 0, le_854) := nn_hold (fuel := 58) (sp := []) (HD := []) (HN := []) (mu := ((0, [], []), (0, [], []), (0, [], []))) (KS := []) (NS := []) hinj nn_MT_code nn_KI1_ok nn_KJ1_ok nn_PF1_ok nn_PS1_ok nn_PM1_ok (fun _ h => absurd h List.not_mem_nil) (by decide +kernel)
/-- NameNotes.part  -/
def le_855 : ab_CN := ([(1, 0, 57024), (1, 0, 59049), (0, 0, 1)], [(0, 0)], [], [], [([(1, 0, 729)], [(0, 0)], [], [], [])])
theorem lf_855 (l : Launch) (cy : Nat → ClassId) (ad wr cr : Nat → Nat) (D : va_G) (hinj : nn_inj ad) : nn_H l cy ad wr cr D (193, 0, le_855) := nn_hold (fuel := 105) (sp := []) (HD := []) (HN := []) (mu := ((0, [], []), (0, [], []), (0, [], []))) (KS := []) (NS := []) hinj nn_MT_code nn_KI1_ok nn_KJ1_ok nn_PF1_ok nn_PS1_ok nn_PM1_ok (fun _ h => absurd h List.not_mem_nil) (by decide +kernel)
/-- NameNotes.part  -/
def le_856 : ab_CN := ([(1, 0, 57024), (1, 0, 59049), (0, 0, 0)], [(0, 0)], [], [], [([(1, 0, 704)], [(0, 0)], [], [], [])])
theorem lf_856 (l : Launch) (cy : Nat → ClassId) (ad wr cr : Nat → Nat) (D : va_G) (hinj : nn_inj ad) : nn_H l cy ad wr cr D (193, 0, le_856) := nn_hold (fuel := 106) (sp := []) (HD := []) (HN := []) (mu := ((0, [], []), (0, [], []), (0, [], []))) (KS := []) (NS := []) hinj nn_MT_code nn_KI1_ok nn_KJ1_ok nn_PF1_ok nn_PS1_ok nn_PM1_ok (fun _ h => absurd h List.not_mem_nil) (by decide +kernel)
/-- NameNotes.part  -/
def le_857 : ab_CN := ([(1, 0, 51597), (1, 0, 59049), (0, 0, 1)], [(0, 0)], [], [], [([(1, 0, 729)], [(0, 0)], [], [], [])])
theorem lf_857 (l : Launch) (cy : Nat → ClassId) (ad wr cr : Nat → Nat) (D : va_G) (hinj : nn_inj ad) : nn_H l cy ad wr cr D (193, 0, le_857) := nn_hold (fuel := 121) (sp := []) (HD := []) (HN := []) (mu := ((0, [], []), (0, [], []), (0, [], []))) (KS := []) (NS := []) hinj nn_MT_code nn_KI1_ok nn_KJ1_ok nn_PF1_ok nn_PS1_ok nn_PM1_ok (fun _ h => absurd h List.not_mem_nil) (by decide +kernel)
/-- NameNotes.part  -/
def le_858 : ab_CN := ([(1, 0, 51597), (1, 0, 59049), (0, 0, 0)], [(0, 0)], [], [], [([(1, 0, 637)], [(0, 0)], [], [], [])])
theorem lf_858 (l : Launch) (cy : Nat → ClassId) (ad wr cr : Nat → Nat) (D : va_G) (hinj : nn_inj ad) : nn_H l cy ad wr cr D (193, 0, le_858) := nn_hold (fuel := 122) (sp := []) (HD := []) (HN := []) (mu := ((0, [], []), (0, [], []), (0, [], []))) (KS := []) (NS := []) hinj nn_MT_code nn_KI1_ok nn_KJ1_ok nn_PF1_ok nn_PS1_ok nn_PM1_ok (fun _ h => absurd h List.not_mem_nil) (by decide +kernel)
/-- NameNotes.part  -/
def le_859 : ab_CN := ([(1, 0, 43740), (1, 0, 59049), (0, 0, 1)], [(0, 0)], [], [], [([(1, 0, 27)], [(0, 0)], [], [], [])])
theorem lf_859 (l : Launch) (cy : Nat → ClassId) (ad wr cr : Nat → Nat) (D : va_G) (hinj : nn_inj ad) : nn_H l cy ad wr cr D (193, 0, le_859) := nn_hold (fuel := 105) (sp := []) (HD := []) (HN := []) (mu := ((0, [], []), (0, [], []), (0, [], []))) (KS := []) (NS := []) hinj nn_MT_code nn_KI1_ok nn_KJ1_ok nn_PF1_ok nn_PS1_ok nn_PM1_ok (fun _ h => absurd h List.not_mem_nil) (by decide +kernel)
/-- NameNotes.part  -/
def le_860 : ab_CN := ([(1, 0, 43740), (1, 0, 59049), (0, 0, 0)], [(0, 0)], [], [], [([(1, 0, 20)], [(0, 0)], [], [], [])])
theorem lf_860 (l : Launch) (cy : Nat → ClassId) (ad wr cr : Nat → Nat) (D : va_G) (hinj : nn_inj ad) : nn_H l cy ad wr cr D (193, 0, le_860) := nn_hold (fuel := 106) (sp := []) (HD := []) (HN := []) (mu := ((0, [], []), (0, [], []), (0, [], []))) (KS := []) (NS := []) hinj nn_MT_code nn_KI1_ok nn_KJ1_ok nn_PF1_ok nn_PS1_ok nn_PM1_ok (fun _ h => absurd h List.not_mem_nil) (by decide +kernel)
/-- NameNotes.part  -/
def le_861 : ab_CN := ([(1, 0, 34425), (1, 0, 59049), (0, 0, 1)], [(0, 0)], [], [], [([(1, 0, 729)], [(0, 0)], [], [], [])])
theorem lf_861 (l : Launch) (cy : Nat → ClassId) (ad wr cr : Nat → Nat) (D : va_G) (hinj : nn_inj ad) : nn_H l cy ad wr cr D (193, 0, le_861) := nn_hold (fuel := 169) (sp := []) (HD := []) (HN := []) (mu := ((0, [], []), (0, [], []), (0, [], []))) (KS := []) (NS := []) hinj nn_MT_code nn_KI1_ok nn_KJ1_ok nn_PF1_ok nn_PS1_ok nn_PM1_ok (fun _ h => absurd h List.not_mem_nil) (by decide +kernel)
/-- NameNotes.part  -/
def le_862 : ab_CN := ([(1, 0, 34425), (1, 0, 59049), (0, 0, 0)], [(0, 0)], [], [], [([(1, 0, 425)], [(0, 0)], [], [], [])])
theorem lf_862 (l : Launch) (cy : Nat → ClassId) (ad wr cr : Nat → Nat) (D : va_G) (hinj : nn_inj ad) : nn_H l cy ad wr cr D (193, 0, le_862) := nn_hold (fuel := 170) (sp := []) (HD := []) (HN := []) (mu := ((0, [], []), (0, [], []), (0, [], []))) (KS := []) (NS := []) hinj nn_MT_code nn_KI1_ok nn_KJ1_ok nn_PF1_ok nn_PS1_ok nn_PM1_ok (fun _ h => absurd h List.not_mem_nil) (by decide +kernel)
/-- NameNotes.part  -/
def le_863 : ab_CN := ([(1, 0, 24624), (1, 0, 59049), (0, 0, 1)], [(0, 0)], [], [], [([(1, 0, 729)], [(0, 0)], [], [], [])])
theorem lf_863 (l : Launch) (cy : Nat → ClassId) (ad wr cr : Nat → Nat) (D : va_G) (hinj : nn_inj ad) : nn_H l cy ad wr cr D (193, 0, le_863) := nn_hold (fuel := 153) (sp := []) (HD := []) (HN := []) (mu := ((0, [], []), (0, [], []), (0, [], []))) (KS := []) (NS := []) hinj nn_MT_code nn_KI1_ok nn_KJ1_ok nn_PF1_ok nn_PS1_ok nn_PM1_ok (fun _ h => absurd h List.not_mem_nil) (by decide +kernel)
/-- NameNotes.part  -/
def le_864 : ab_CN := ([(1, 0, 24624), (1, 0, 59049), (0, 0, 0)], [(0, 0)], [], [], [([(1, 0, 304)], [(0, 0)], [], [], [])])
theorem lf_864 (l : Launch) (cy : Nat → ClassId) (ad wr cr : Nat → Nat) (D : va_G) (hinj : nn_inj ad) : nn_H l cy ad wr cr D (193, 0, le_864) := nn_hold (fuel := 154) (sp := []) (HD := []) (HN := []) (mu := ((0, [], []), (0, [], []), (0, [], []))) (KS := []) (NS := []) hinj nn_MT_code nn_KI1_ok nn_KJ1_ok nn_PF1_ok nn_PS1_ok nn_PM1_ok (fun _ h => absurd h List.not_mem_nil) (by decide +kernel)
/-- NameNotes.part  -/
def le_865 : ab_CN := ([(1, 0, 15309), (1, 0, 59049), (0, 0, 1)], [(0, 0)], [], [], [([(1, 0, 27)], [(0, 0)], [], [], [])])
theorem lf_865 (l : Launch) (cy : Nat → ClassId) (ad wr cr : Nat → Nat) (D : va_G) (hinj : nn_inj ad) : nn_H l cy ad wr cr D (193, 0, le_865) := nn_hold (fuel := 89) (sp := []) (HD := []) (HN := []) (mu := ((0, [], []), (0, [], []), (0, [], []))) (KS := []) (NS := []) hinj nn_MT_code nn_KI1_ok nn_KJ1_ok nn_PF1_ok nn_PS1_ok nn_PM1_ok (fun _ h => absurd h List.not_mem_nil) (by decide +kernel)
/-- NameNotes.part  -/
def le_866 : ab_CN := ([(1, 0, 15309), (1, 0, 59049), (0, 0, 0)], [(0, 0)], [], [], [([(1, 0, 7)], [(0, 0)], [], [], [])])
theorem lf_866 (l : Launch) (cy : Nat → ClassId) (ad wr cr : Nat → Nat) (D : va_G) (hinj : nn_inj ad) : nn_H l cy ad wr cr D (193, 0, le_866) := nn_hold (fuel := 90) (sp := []) (HD := []) (HN := []) (mu := ((0, [], []), (0, [], []), (0, [], []))) (KS := []) (NS := []) hinj nn_MT_code nn_KI1_ok nn_KJ1_ok nn_PF1_ok nn_PS1_ok nn_PM1_ok (fun _ h => absurd h List.not_mem_nil) (by decide +kernel)
/-- NameNotes.part  -/
def le_867 : ab_CN := ([(1, 0, 7452), (1, 0, 59049), (0, 0, 1)], [(0, 0)], [], [], [([(1, 0, 729)], [(0, 0)], [], [], [])])
theorem lf_867 (l : Launch) (cy : Nat → ClassId) (ad wr cr : Nat → Nat) (D : va_G) (hinj : nn_inj ad) : nn_H l cy ad wr cr D (193, 0, le_867) := nn_hold (fuel := 105) (sp := []) (HD := []) (HN := []) (mu := ((0, [], []), (0, [], []), (0, [], []))) (KS := []) (NS := []) hinj nn_MT_code nn_KI1_ok nn_KJ1_ok nn_PF1_ok nn_PS1_ok nn_PM1_ok (fun _ h => absurd h List.not_mem_nil) (by decide +kernel)
/-- NameNotes.part  -/
def le_868 : ab_CN := ([(1, 0, 7452), (1, 0, 59049), (0, 0, 0)], [(0, 0)], [], [], [([(1, 0, 92)], [(0, 0)], [], [], [])])
theorem lf_868 (l : Launch) (cy : Nat → ClassId) (ad wr cr : Nat → Nat) (D : va_G) (hinj : nn_inj ad) : nn_H l cy ad wr cr D (193, 0, le_868) := nn_hold (fuel := 106) (sp := []) (HD := []) (HN := []) (mu := ((0, [], []), (0, [], []), (0, [], []))) (KS := []) (NS := []) hinj nn_MT_code nn_KI1_ok nn_KJ1_ok nn_PF1_ok nn_PS1_ok nn_PM1_ok (fun _ h => absurd h List.not_mem_nil) (by decide +kernel)
/-- NameNotes.part  -/
def le_869 : ab_CN := ([(1, 0, 2025), (1, 0, 59049), (0, 0, 1)], [(0, 0)], [], [], [([(1, 0, 729)], [(0, 0)], [], [], [])])
theorem lf_869 (l : Launch) (cy : Nat → ClassId) (ad wr cr : Nat → Nat) (D : va_G) (hinj : nn_inj ad) : nn_H l cy ad wr cr D (193, 0, le_869) := nn_hold (fuel := 89) (sp := []) (HD := []) (HN := []) (mu := ((0, [], []), (0, [], []), (0, [], []))) (KS := []) (NS := []) hinj nn_MT_code nn_KI1_ok nn_KJ1_ok nn_PF1_ok nn_PS1_ok nn_PM1_ok (fun _ h => absurd h List.not_mem_nil) (by decide +kernel)
/-- NameNotes.part  -/
def le_870 : ab_CN := ([(1, 0, 2025), (1, 0, 59049), (0, 0, 0)], [(0, 0)], [], [], [([(1, 0, 25)], [(0, 0)], [], [], [])])
theorem lf_870 (l : Launch) (cy : Nat → ClassId) (ad wr cr : Nat → Nat) (D : va_G) (hinj : nn_inj ad) : nn_H l cy ad wr cr D (193, 0, le_870) := nn_hold (fuel := 90) (sp := []) (HD := []) (HN := []) (mu := ((0, [], []), (0, [], []), (0, [], []))) (KS := []) (NS := []) hinj nn_MT_code nn_KI1_ok nn_KJ1_ok nn_PF1_ok nn_PS1_ok nn_PM1_ok (fun _ h => absurd h List.not_mem_nil) (by decide +kernel)
/-- NameNotes.part  -/
def le_871 : ab_CN := ([(1, 0, 58752), (1, 0, 59049), (0, 0, 1)], [(0, 0)], [], [], [([(1, 0, 2187)], [(0, 0)], [], [], [])])
theorem lf_871 (l : Launch) (cy : Nat → ClassId) (ad wr cr : Nat → Nat) (D : va_G) (hinj : nn_inj ad) : nn_H l cy ad wr cr D (193, 0, le_871) := nn_hold (fuel := 121) (sp := []) (HD := []) (HN := []) (mu := ((0, [], []), (0, [], []), (0, [], []))) (KS := []) (NS := []) hinj nn_MT_code nn_KI1_ok nn_KJ1_ok nn_PF1_ok nn_PS1_ok nn_PM1_ok (fun _ h => absurd h List.not_mem_nil) (by decide +kernel)
/-- NameNotes.part  -/
def le_872 : ab_CN := ([(1, 0, 58752), (1, 0, 59049), (0, 0, 0)], [(0, 0)], [], [], [([(1, 0, 2176)], [(0, 0)], [], [], [])])
theorem lf_872 (l : Launch) (cy : Nat → ClassId) (ad wr cr : Nat → Nat) (D : va_G) (hinj : nn_inj ad) : nn_H l cy ad wr cr D (193, 0, le_872) := nn_hold (fuel := 122) (sp := []) (HD := []) (HN := []) (mu := ((0, [], []), (0, [], []), (0, [], []))) (KS := []) (NS := []) hinj nn_MT_code nn_KI1_ok nn_KJ1_ok nn_PF1_ok nn_PS1_ok nn_PM1_ok (fun _ h => absurd h List.not_mem_nil) (by decide +kernel)
/-- NameNotes.part  -/
def le_873 : ab_CN := ([(1, 0, 56889), (1, 0, 59049), (0, 0, 1)], [(0, 0)], [], [], [([(1, 0, 2187)], [(0, 0)], [], [], [])])
theorem lf_873 (l : Launch) (cy : Nat → ClassId) (ad wr cr : Nat → Nat) (D : va_G) (hinj : nn_inj ad) : nn_H l cy ad wr cr D (193, 0, le_873) := nn_hold (fuel := 121) (sp := []) (HD := []) (HN := []) (mu := ((0, [], []), (0, [], []), (0, [], []))) (KS := []) (NS := []) hinj nn_MT_code nn_KI1_ok nn_KJ1_ok nn_PF1_ok nn_PS1_ok nn_PM1_ok (fun _ h => absurd h List.not_mem_nil) (by decide +kernel)
/-- NameNotes.part  -/
def le_874 : ab_CN := ([(1, 0, 56889), (1, 0, 59049), (0, 0, 0)], [(0, 0)], [], [], [([(1, 0, 2107)], [(0, 0)], [], [], [])])
theorem lf_874 (l : Launch) (cy : Nat → ClassId) (ad wr cr : Nat → Nat) (D : va_G) (hinj : nn_inj ad) : nn_H l cy ad wr cr D (193, 0, le_874) := nn_hold (fuel := 122) (sp := []) (HD := []) (HN := []) (mu := ((0, [], []), (0, [], []), (0, [], []))) (KS := []) (NS := []) hinj nn_MT_code nn_KI1_ok nn_KJ1_ok nn_PF1_ok nn_PS1_ok nn_PM1_ok (fun _ h => absurd h List.not_mem_nil) (by decide +kernel)
/-- NameNotes.part  -/
def le_875 : ab_CN := ([(1, 0, 45225), (1, 0, 59049), (0, 0, 1)], [(0, 0)], [], [], [([(1, 0, 2187)], [(0, 0)], [], [], [])])
theorem lf_875 (l : Launch) (cy : Nat → ClassId) (ad wr cr : Nat → Nat) (D : va_G) (hinj : nn_inj ad) : nn_H l cy ad wr cr D (193, 0, le_875) := nn_hold (fuel := 169) (sp := []) (HD := []) (HN := []) (mu := ((0, [], []), (0, [], []), (0, [], []))) (KS := []) (NS := []) hinj nn_MT_code nn_KI1_ok nn_KJ1_ok nn_PF1_ok nn_PS1_ok nn_PM1_ok (fun _ h => absurd h List.not_mem_nil) (by decide +kernel)
/-- NameNotes.part  -/
def le_876 : ab_CN := ([(1, 0, 45225), (1, 0, 59049), (0, 0, 0)], [(0, 0)], [], [], [([(1, 0, 1675)], [(0, 0)], [], [], [])])
theorem lf_876 (l : Launch) (cy : Nat → ClassId) (ad wr cr : Nat → Nat) (D : va_G) (hinj : nn_inj ad) : nn_H l cy ad wr cr D (193, 0, le_876) := nn_hold (fuel := 170) (sp := []) (HD := []) (HN := []) (mu := ((0, [], []), (0, [], []), (0, [], []))) (KS := []) (NS := []) hinj nn_MT_code nn_KI1_ok nn_KJ1_ok nn_PF1_ok nn_PS1_ok nn_PM1_ok (fun _ h => absurd h List.not_mem_nil) (by decide +kernel)
/-- NameNotes.part  -/
def le_877 : ab_CN := ([(1, 0, 35424), (1, 0, 59049), (0, 0, 1)], [(0, 0)], [], [], [([(1, 0, 2187)], [(0, 0)], [], [], [])])
theorem lf_877 (l : Launch) (cy : Nat → ClassId) (ad wr cr : Nat → Nat) (D : va_G) (hinj : nn_inj ad) : nn_H l cy ad wr cr D (193, 0, le_877) := nn_hold (fuel := 105) (sp := []) (HD := []) (HN := []) (mu := ((0, [], []), (0, [], []), (0, [], []))) (KS := []) (NS := []) hinj nn_MT_code nn_KI1_ok nn_KJ1_ok nn_PF1_ok nn_PS1_ok nn_PM1_ok (fun _ h => absurd h List.not_mem_nil) (by decide +kernel)
/-- NameNotes.part  -/
def le_878 : ab_CN := ([(1, 0, 35424), (1, 0, 59049), (0, 0, 0)], [(0, 0)], [], [], [([(1, 0, 1312)], [(0, 0)], [], [], [])])
theorem lf_878 (l : Launch) (cy : Nat → ClassId) (ad wr cr : Nat → Nat) (D : va_G) (hinj : nn_inj ad) : nn_H l cy ad wr cr D (193, 0, le_878) := nn_hold (fuel := 106) (sp := []) (HD := []) (HN := []) (mu := ((0, [], []), (0, [], []), (0, [], []))) (KS := []) (NS := []) hinj nn_MT_code nn_KI1_ok nn_KJ1_ok nn_PF1_ok nn_PS1_ok nn_PM1_ok (fun _ h => absurd h List.not_mem_nil) (by decide +kernel)
/-- NameNotes.part  -/
def le_879 : ab_CN := ([(1, 0, 24057), (1, 0, 59049), (0, 0, 1)], [(0, 0)], [], [], [([(1, 0, 27)], [(0, 0)], [], [], [])])
theorem lf_879 (l : Launch) (cy : Nat → ClassId) (ad wr cr : Nat → Nat) (D : va_G) (hinj : nn_inj ad) : nn_H l cy ad wr cr D (193, 0, le_879) := nn_hold (fuel := 89) (sp := []) (HD := []) (HN := []) (mu := ((0, [], []), (0, [], []), (0, [], []))) (KS := []) (NS := []) hinj nn_MT_code nn_KI1_ok nn_KJ1_ok nn_PF1_ok nn_PS1_ok nn_PM1_ok (fun _ h => absurd h List.not_mem_nil) (by decide +kernel)
/-- NameNotes.part  -/
def le_880 : ab_CN := ([(1, 0, 24057), (1, 0, 59049), (0, 0, 0)], [(0, 0)], [], [], [([(1, 0, 11)], [(0, 0)], [], [], [])])
theorem lf_880 (l : Launch) (cy : Nat → ClassId) (ad wr cr : Nat → Nat) (D : va_G) (hinj : nn_inj ad) : nn_H l cy ad wr cr D (193, 0, le_880) := nn_hold (fuel := 90) (sp := []) (HD := []) (HN := []) (mu := ((0, [], []), (0, [], []), (0, [], []))) (KS := []) (NS := []) hinj nn_MT_code nn_KI1_ok nn_KJ1_ok nn_PF1_ok nn_PS1_ok nn_PM1_ok (fun _ h => absurd h List.not_mem_nil) (by decide +kernel)
/-- NameNotes.part  -/
def le_881 : ab_CN := ([(1, 0, 12744), (1, 0, 59049), (0, 0, 1)], [(0, 0)], [], [], [([(1, 0, 2187)], [(0, 0)], [], [], [])])
theorem lf_881 (l : Launch) (cy : Nat → ClassId) (ad wr cr : Nat → Nat) (D : va_G) (hinj : nn_inj ad) : nn_H l cy ad wr cr D (193, 0, le_881) := nn_hold (fuel := 185) (sp := []) (HD := []) (HN := []) (mu := ((0, [], []), (0, [], []), (0, [], []))) (KS := []) (NS := []) hinj nn_MT_code nn_KI1_ok nn_KJ1_ok nn_PF1_ok nn_PS1_ok nn_PM1_ok (fun _ h => absurd h List.not_mem_nil) (by decide +kernel)
/-- NameNotes.part  -/
def le_882 : ab_CN := ([(1, 0, 12744), (1, 0, 59049), (0, 0, 0)], [(0, 0)], [], [], [([(1, 0, 472)], [(0, 0)], [], [], [])])
theorem lf_882 (l : Launch) (cy : Nat → ClassId) (ad wr cr : Nat → Nat) (D : va_G) (hinj : nn_inj ad) : nn_H l cy ad wr cr D (193, 0, le_882) := nn_hold (fuel := 186) (sp := []) (HD := []) (HN := []) (mu := ((0, [], []), (0, [], []), (0, [], []))) (KS := []) (NS := []) hinj nn_MT_code nn_KI1_ok nn_KJ1_ok nn_PF1_ok nn_PS1_ok nn_PM1_ok (fun _ h => absurd h List.not_mem_nil) (by decide +kernel)
/-- NameNotes.part  -/
def le_883 : ab_CN := ([(1, 0, 3753), (1, 0, 59049), (0, 0, 1)], [(0, 0)], [], [], [([(1, 0, 2187)], [(0, 0)], [], [], [])])
theorem lf_883 (l : Launch) (cy : Nat → ClassId) (ad wr cr : Nat → Nat) (D : va_G) (hinj : nn_inj ad) : nn_H l cy ad wr cr D (193, 0, le_883) := nn_hold (fuel := 137) (sp := []) (HD := []) (HN := []) (mu := ((0, [], []), (0, [], []), (0, [], []))) (KS := []) (NS := []) hinj nn_MT_code nn_KI1_ok nn_KJ1_ok nn_PF1_ok nn_PS1_ok nn_PM1_ok (fun _ h => absurd h List.not_mem_nil) (by decide +kernel)
/-- NameNotes.part  -/
def le_884 : ab_CN := ([(1, 0, 3753), (1, 0, 59049), (0, 0, 0)], [(0, 0)], [], [], [([(1, 0, 139)], [(0, 0)], [], [], [])])
theorem lf_884 (l : Launch) (cy : Nat → ClassId) (ad wr cr : Nat → Nat) (D : va_G) (hinj : nn_inj ad) : nn_H l cy ad wr cr D (193, 0, le_884) := nn_hold (fuel := 138) (sp := []) (HD := []) (HN := []) (mu := ((0, [], []), (0, [], []), (0, [], []))) (KS := []) (NS := []) hinj nn_MT_code nn_KI1_ok nn_KJ1_ok nn_PF1_ok nn_PS1_ok nn_PM1_ok (fun _ h => absurd h List.not_mem_nil) (by decide +kernel)
/-- NameNotes.part  -/
def le_885 : ab_CN := ([(1, 0, 41472), (1, 0, 59049), (0, 0, 1)], [(0, 0)], [], [], [([(1, 0, 729)], [(0, 0)], [], [], [])])
theorem lf_885 (l : Launch) (cy : Nat → ClassId) (ad wr cr : Nat → Nat) (D : va_G) (hinj : nn_inj ad) : nn_H l cy ad wr cr D (193, 0, le_885) := nn_hold (fuel := 185) (sp := []) (HD := []) (HN := []) (mu := ((0, [], []), (0, [], []), (0, [], []))) (KS := []) (NS := []) hinj nn_MT_code nn_KI1_ok nn_KJ1_ok nn_PF1_ok nn_PS1_ok nn_PM1_ok (fun _ h => absurd h List.not_mem_nil) (by decide +kernel)
/-- NameNotes.part  -/
def le_886 : ab_CN := ([(1, 0, 41472), (1, 0, 59049), (0, 0, 0)], [(0, 0)], [], [], [([(1, 0, 512)], [(0, 0)], [], [], [])])
theorem lf_886 (l : Launch) (cy : Nat → ClassId) (ad wr cr : Nat → Nat) (D : va_G) (hinj : nn_inj ad) : nn_H l cy ad wr cr D (193, 0, le_886) := nn_hold (fuel := 186) (sp := []) (HD := []) (HN := []) (mu := ((0, [], []), (0, [], []), (0, [], []))) (KS := []) (NS := []) hinj nn_MT_code nn_KI1_ok nn_KJ1_ok nn_PF1_ok nn_PS1_ok nn_PM1_ok (fun _ h => absurd h List.not_mem_nil) (by decide +kernel)
/-- NameNotes.part  -/
def le_887 : ab_CN := ([(1, 0, 27783), (1, 0, 59049), (0, 0, 1)], [(0, 0)], [], [], [([(1, 0, 729)], [(0, 0)], [], [], [])])
theorem lf_887 (l : Launch) (cy : Nat → ClassId) (ad wr cr : Nat → Nat) (D : va_G) (hinj : nn_inj ad) : nn_H l cy ad wr cr D (193, 0, le_887) := nn_hold (fuel := 105) (sp := []) (HD := []) (HN := []) (mu := ((0, [], []), (0, [], []), (0, [], []))) (KS := []) (NS := []) hinj nn_MT_code nn_KI1_ok nn_KJ1_ok nn_PF1_ok nn_PS1_ok nn_PM1_ok (fun _ h => absurd h List.not_mem_nil) (by decide +kernel)
/-- NameNotes.part  -/
def le_888 : ab_CN := ([(1, 0, 27783), (1, 0, 59049), (0, 0, 0)], [(0, 0)], [], [], [([(1, 0, 343)], [(0, 0)], [], [], [])])
theorem lf_888 (l : Launch) (cy : Nat → ClassId) (ad wr cr : Nat → Nat) (D : va_G) (hinj : nn_inj ad) : nn_H l cy ad wr cr D (193, 0, le_888) := nn_hold (fuel := 106) (sp := []) (HD := []) (HN := []) (mu := ((0, [], []), (0, [], []), (0, [], []))) (KS := []) (NS := []) hinj nn_MT_code nn_KI1_ok nn_KJ1_ok nn_PF1_ok nn_PS1_ok nn_PM1_ok (fun _ h => absurd h List.not_mem_nil) (by decide +kernel)
/-- NameNotes.part  -/
def le_889 : ab_CN := ([(1, 0, 17496), (1, 0, 59049), (0, 0, 1)], [(0, 0)], [], [], [([(1, 0, 27)], [(0, 0)], [], [], [])])
theorem lf_889 (l : Launch) (cy : Nat → ClassId) (ad wr cr : Nat → Nat) (D : va_G) (hinj : nn_inj ad) : nn_H l cy ad wr cr D (193, 0, le_889) := nn_hold (fuel := 105) (sp := []) (HD := []) (HN := []) (mu := ((0, [], []), (0, [], []), (0, [], []))) (KS := []) (NS := []) hinj nn_MT_code nn_KI1_ok nn_KJ1_ok nn_PF1_ok nn_PS1_ok nn_PM1_ok (fun _ h => absurd h List.not_mem_nil) (by decide +kernel)
/-- NameNotes.part  -/
def le_890 : ab_CN := ([(1, 0, 17496), (1, 0, 59049), (0, 0, 0)], [(0, 0)], [], [], [([(1, 0, 8)], [(0, 0)], [], [], [])])
theorem lf_890 (l : Launch) (cy : Nat → ClassId) (ad wr cr : Nat → Nat) (D : va_G) (hinj : nn_inj ad) : nn_H l cy ad wr cr D (193, 0, le_890) := nn_hold (fuel := 106) (sp := []) (HD := []) (HN := []) (mu := ((0, [], []), (0, [], []), (0, [], []))) (KS := []) (NS := []) hinj nn_MT_code nn_KI1_ok nn_KJ1_ok nn_PF1_ok nn_PS1_ok nn_PM1_ok (fun _ h => absurd h List.not_mem_nil) (by decide +kernel)
/-- NameNotes.part  -/
def le_891 : ab_CN := ([(1, 0, 10125), (1, 0, 59049), (0, 0, 1)], [(0, 0)], [], [], [([(1, 0, 729)], [(0, 0)], [], [], [])])
theorem lf_891 (l : Launch) (cy : Nat → ClassId) (ad wr cr : Nat → Nat) (D : va_G) (hinj : nn_inj ad) : nn_H l cy ad wr cr D (193, 0, le_891) := nn_hold (fuel := 121) (sp := []) (HD := []) (HN := []) (mu := ((0, [], []), (0, [], []), (0, [], []))) (KS := []) (NS := []) hinj nn_MT_code nn_KI1_ok nn_KJ1_ok nn_PF1_ok nn_PS1_ok nn_PM1_ok (fun _ h => absurd h List.not_mem_nil) (by decide +kernel)
/-- NameNotes.part  -/
def le_892 : ab_CN := ([(1, 0, 10125), (1, 0, 59049), (0, 0, 0)], [(0, 0)], [], [], [([(1, 0, 125)], [(0, 0)], [], [], [])])
theorem lf_892 (l : Launch) (cy : Nat → ClassId) (ad wr cr : Nat → Nat) (D : va_G) (hinj : nn_inj ad) : nn_H l cy ad wr cr D (193, 0, le_892) := nn_hold (fuel := 122) (sp := []) (HD := []) (HN := []) (mu := ((0, [], []), (0, [], []), (0, [], []))) (KS := []) (NS := []) hinj nn_MT_code nn_KI1_ok nn_KJ1_ok nn_PF1_ok nn_PS1_ok nn_PM1_ok (fun _ h => absurd h List.not_mem_nil) (by decide +kernel)
/-- NameNotes.part  -/
def le_893 : ab_CN := ([(1, 0, 5184), (1, 0, 59049), (0, 0, 1)], [(0, 0)], [], [], [([(1, 0, 729)], [(0, 0)], [], [], [])])
theorem lf_893 (l : Launch) (cy : Nat → ClassId) (ad wr cr : Nat → Nat) (D : va_G) (hinj : nn_inj ad) : nn_H l cy ad wr cr D (193, 0, le_893) := nn_hold (fuel := 153) (sp := []) (HD := []) (HN := []) (mu := ((0, [], []), (0, [], []), (0, [], []))) (KS := []) (NS := []) hinj nn_MT_code nn_KI1_ok nn_KJ1_ok nn_PF1_ok nn_PS1_ok nn_PM1_ok (fun _ h => absurd h List.not_mem_nil) (by decide +kernel)
/-- NameNotes.part  -/
def le_894 : ab_CN := ([(1, 0, 5184), (1, 0, 59049), (0, 0, 0)], [(0, 0)], [], [], [([(1, 0, 64)], [(0, 0)], [], [], [])])
theorem lf_894 (l : Launch) (cy : Nat → ClassId) (ad wr cr : Nat → Nat) (D : va_G) (hinj : nn_inj ad) : nn_H l cy ad wr cr D (193, 0, le_894) := nn_hold (fuel := 154) (sp := []) (HD := []) (HN := []) (mu := ((0, [], []), (0, [], []), (0, [], []))) (KS := []) (NS := []) hinj nn_MT_code nn_KI1_ok nn_KJ1_ok nn_PF1_ok nn_PS1_ok nn_PM1_ok (fun _ h => absurd h List.not_mem_nil) (by decide +kernel)
/-- NameNotes.part  -/
def le_895 : ab_CN := ([(1, 0, 2187), (1, 0, 59049), (0, 0, 1)], [(0, 0)], [], [], [([(1, 0, 27)], [(0, 0)], [], [], [])])
theorem lf_895 (l : Launch) (cy : Nat → ClassId) (ad wr cr : Nat → Nat) (D : va_G) (hinj : nn_inj ad) : nn_H l cy ad wr cr D (193, 0, le_895) := nn_hold (fuel := 57) (sp := []) (HD := []) (HN := []) (mu := ((0, [], []), (0, [], []), (0, [], []))) (KS := []) (NS := []) hinj nn_MT_code nn_KI1_ok nn_KJ1_ok nn_PF1_ok nn_PS1_ok nn_PM1_ok (fun _ h => absurd h List.not_mem_nil) (by decide +kernel)
/-- NameNotes.part  -/
def le_896 : ab_CN := ([(1, 0, 2187), (1, 0, 59049), (0, 0, 0)], [(0, 0)], [], [], [([(1, 0, 1)], [(0, 0)], [], [], [])])
theorem lf_896 (l : Launch) (cy : Nat → ClassId) (ad wr cr : Nat → Nat) (D : va_G) (hinj : nn_inj ad) : nn_H l cy ad wr cr D (193, 0, le_896) := nn_hold (fuel := 58) (sp := []) (HD := []) (HN := []) (mu := ((0, [], []), (0, [], []), (0, [], []))) (KS := []) (NS := []) hinj nn_MT_code nn_KI1_ok nn_KJ1_ok nn_PF1_ok nn_PS1_ok nn_PM1_ok (fun _ h => absurd h List.not_mem_nil) (by decide +kernel)
/-- NameNotes.part  -/
def le_897 : ab_CN := ([(1, 0, 648), (1, 0, 59049), (0, 0, 1)], [(0, 0)], [], [], [([(1, 0, 729)], [(0, 0)], [], [], [])])
theorem lf_897 (l : Launch) (cy : Nat → ClassId) (ad wr cr : Nat → Nat) (D : va_G) (hinj : nn_inj ad) : nn_H l cy ad wr cr D (193, 0, le_897) := nn_hold (fuel := 73) (sp := []) (HD := []) (HN := []) (mu := ((0, [], []), (0, [], []), (0, [], []))) (KS := []) (NS := []) hinj nn_MT_code nn_KI1_ok nn_KJ1_ok nn_PF1_ok nn_PS1_ok nn_PM1_ok (fun _ h => absurd h List.not_mem_nil) (by decide +kernel)
/-- NameNotes.part  -/
def le_898 : ab_CN := ([(1, 0, 648), (1, 0, 59049), (0, 0, 0)], [(0, 0)], [], [], [([(1, 0, 8)], [(0, 0)], [], [], [])])
theorem lf_898 (l : Launch) (cy : Nat → ClassId) (ad wr cr : Nat → Nat) (D : va_G) (hinj : nn_inj ad) : nn_H l cy ad wr cr D (193, 0, le_898) := nn_hold (fuel := 74) (sp := []) (HD := []) (HN := []) (mu := ((0, [], []), (0, [], []), (0, [], []))) (KS := []) (NS := []) hinj nn_MT_code nn_KI1_ok nn_KJ1_ok nn_PF1_ok nn_PS1_ok nn_PM1_ok (fun _ h => absurd h List.not_mem_nil) (by decide +kernel)
/-- NameNotes.part  -/
def le_899 : ab_CN := ([(1, 0, 81), (1, 0, 59049), (0, 0, 1)], [(0, 0)], [], [], [([(1, 0, 729)], [(0, 0)], [], [], [])])
theorem lf_899 (l : Launch) (cy : Nat → ClassId) (ad wr cr : Nat → Nat) (D : va_G) (hinj : nn_inj ad) : nn_H l cy ad wr cr D (193, 0, le_899) := nn_hold (fuel := 57) (sp := []) (HD := []) (HN := []) (mu := ((0, [], []), (0, [], []), (0, [], []))) (KS := []) (NS := []) hinj nn_MT_code nn_KI1_ok nn_KJ1_ok nn_PF1_ok nn_PS1_ok nn_PM1_ok (fun _ h => absurd h List.not_mem_nil) (by decide +kernel)
/-- NameNotes.part  -/
def le_900 : ab_CN := ([(1, 0, 81), (1, 0, 59049), (0, 0, 0)], [(0, 0)], [], [], [([(1, 0, 1)], [(0, 0)], [], [], [])])
theorem lf_900 (l : Launch) (cy : Nat → ClassId) (ad wr cr : Nat → Nat) (D : va_G) (hinj : nn_inj ad) : nn_H l cy ad wr cr D (193, 0, le_900) := nn_hold (fuel := 58) (sp := []) (HD := []) (HN := []) (mu := ((0, [], []), (0, [], []), (0, [], []))) (KS := []) (NS := []) hinj nn_MT_code nn_KI1_ok nn_KJ1_ok nn_PF1_ok nn_PS1_ok nn_PM1_ok (fun _ h => absurd h List.not_mem_nil) (by decide +kernel)
/-- NameNotes.part  -/
def le_901 : ab_CN := ([(1, 0, 55296), (1, 0, 59049), (0, 0, 1)], [(0, 0)], [], [], [([(1, 0, 2187)], [(0, 0)], [], [], [])])
theorem lf_901 (l : Launch) (cy : Nat → ClassId) (ad wr cr : Nat → Nat) (D : va_G) (hinj : nn_inj ad) : nn_H l cy ad wr cr D (193, 0, le_901) := nn_hold (fuel := 153) (sp := []) (HD := []) (HN := []) (mu := ((0, [], []), (0, [], []), (0, [], []))) (KS := []) (NS := []) hinj nn_MT_code nn_KI1_ok nn_KJ1_ok nn_PF1_ok nn_PS1_ok nn_PM1_ok (fun _ h => absurd h List.not_mem_nil) (by decide +kernel)
/-- NameNotes.part  -/
def le_902 : ab_CN := ([(1, 0, 55296), (1, 0, 59049), (0, 0, 0)], [(0, 0)], [], [], [([(1, 0, 2048)], [(0, 0)], [], [], [])])
theorem lf_902 (l : Launch) (cy : Nat → ClassId) (ad wr cr : Nat → Nat) (D : va_G) (hinj : nn_inj ad) : nn_H l cy ad wr cr D (193, 0, le_902) := nn_hold (fuel := 154) (sp := []) (HD := []) (HN := []) (mu := ((0, [], []), (0, [], []), (0, [], []))) (KS := []) (NS := []) hinj nn_MT_code nn_KI1_ok nn_KJ1_ok nn_PF1_ok nn_PS1_ok nn_PM1_ok (fun _ h => absurd h List.not_mem_nil) (by decide +kernel)
/-- NameNotes.part  -/
def le_903 : ab_CN := ([(1, 0, 46305), (1, 0, 59049), (0, 0, 1)], [(0, 0)], [], [], [([(1, 0, 2187)], [(0, 0)], [], [], [])])
theorem lf_903 (l : Launch) (cy : Nat → ClassId) (ad wr cr : Nat → Nat) (D : va_G) (hinj : nn_inj ad) : nn_H l cy ad wr cr D (193, 0, le_903) := nn_hold (fuel := 201) (sp := []) (HD := []) (HN := []) (mu := ((0, [], []), (0, [], []), (0, [], []))) (KS := []) (NS := []) hinj nn_MT_code nn_KI1_ok nn_KJ1_ok nn_PF1_ok nn_PS1_ok nn_PM1_ok (fun _ h => absurd h List.not_mem_nil) (by decide +kernel)
/-- NameNotes.part  -/
def le_904 : ab_CN := ([(1, 0, 46305), (1, 0, 59049), (0, 0, 0)], [(0, 0)], [], [], [([(1, 0, 1715)], [(0, 0)], [], [], [])])
theorem lf_904 (l : Launch) (cy : Nat → ClassId) (ad wr cr : Nat → Nat) (D : va_G) (hinj : nn_inj ad) : nn_H l cy ad wr cr D (193, 0, le_904) := nn_hold (fuel := 202) (sp := []) (HD := []) (HN := []) (mu := ((0, [], []), (0, [], []), (0, [], []))) (KS := []) (NS := []) hinj nn_MT_code nn_KI1_ok nn_KJ1_ok nn_PF1_ok nn_PS1_ok nn_PM1_ok (fun _ h => absurd h List.not_mem_nil) (by decide +kernel)
/-- NameNotes.part  -/
def le_905 : ab_CN := ([(1, 0, 34992), (1, 0, 59049), (0, 0, 1)], [(0, 0)], [], [], [([(1, 0, 27)], [(0, 0)], [], [], [])])
theorem lf_905 (l : Launch) (cy : Nat → ClassId) (ad wr cr : Nat → Nat) (D : va_G) (hinj : nn_inj ad) : nn_H l cy ad wr cr D (193, 0, le_905) := nn_hold (fuel := 105) (sp := []) (HD := []) (HN := []) (mu := ((0, [], []), (0, [], []), (0, [], []))) (KS := []) (NS := []) hinj nn_MT_code nn_KI1_ok nn_KJ1_ok nn_PF1_ok nn_PS1_ok nn_PM1_ok (fun _ h => absurd h List.not_mem_nil) (by decide +kernel)
/-- NameNotes.part  -/
def le_906 : ab_CN := ([(1, 0, 34992), (1, 0, 59049), (0, 0, 0)], [(0, 0)], [], [], [([(1, 0, 16)], [(0, 0)], [], [], [])])
theorem lf_906 (l : Launch) (cy : Nat → ClassId) (ad wr cr : Nat → Nat) (D : va_G) (hinj : nn_inj ad) : nn_H l cy ad wr cr D (193, 0, le_906) := nn_hold (fuel := 106) (sp := []) (HD := []) (HN := []) (mu := ((0, [], []), (0, [], []), (0, [], []))) (KS := []) (NS := []) hinj nn_MT_code nn_KI1_ok nn_KJ1_ok nn_PF1_ok nn_PS1_ok nn_PM1_ok (fun _ h => absurd h List.not_mem_nil) (by decide +kernel)
/-- NameNotes.part  -/
def le_907 : ab_CN := ([(1, 0, 23625), (1, 0, 59049), (0, 0, 1)], [(0, 0)], [], [], [([(1, 0, 2187)], [(0, 0)], [], [], [])])
theorem lf_907 (l : Launch) (cy : Nat → ClassId) (ad wr cr : Nat → Nat) (D : va_G) (hinj : nn_inj ad) : nn_H l cy ad wr cr D (193, 0, le_907) := nn_hold (fuel := 89) (sp := []) (HD := []) (HN := []) (mu := ((0, [], []), (0, [], []), (0, [], []))) (KS := []) (NS := []) hinj nn_MT_code nn_KI1_ok nn_KJ1_ok nn_PF1_ok nn_PS1_ok nn_PM1_ok (fun _ h => absurd h List.not_mem_nil) (by decide +kernel)
/-- NameNotes.part  -/
def le_908 : ab_CN := ([(1, 0, 23625), (1, 0, 59049), (0, 0, 0)], [(0, 0)], [], [], [([(1, 0, 875)], [(0, 0)], [], [], [])])
theorem lf_908 (l : Launch) (cy : Nat → ClassId) (ad wr cr : Nat → Nat) (D : va_G) (hinj : nn_inj ad) : nn_H l cy ad wr cr D (193, 0, le_908) := nn_hold (fuel := 90) (sp := []) (HD := []) (HN := []) (mu := ((0, [], []), (0, [], []), (0, [], []))) (KS := []) (NS := []) hinj nn_MT_code nn_KI1_ok nn_KJ1_ok nn_PF1_ok nn_PS1_ok nn_PM1_ok (fun _ h => absurd h List.not_mem_nil) (by decide +kernel)
/-- NameNotes.part  -/
def le_909 : ab_CN := ([(1, 0, 13824), (1, 0, 59049), (0, 0, 1)], [(0, 0)], [], [], [([(1, 0, 2187)], [(0, 0)], [], [], [])])
theorem lf_909 (l : Launch) (cy : Nat → ClassId) (ad wr cr : Nat → Nat) (D : va_G) (hinj : nn_inj ad) : nn_H l cy ad wr cr D (193, 0, le_909) := nn_hold (fuel := 153) (sp := []) (HD := []) (HN := []) (mu := ((0, [], []), (0, [], []), (0, [], []))) (KS := []) (NS := []) hinj nn_MT_code nn_KI1_ok nn_KJ1_ok nn_PF1_ok nn_PS1_ok nn_PM1_ok (fun _ h => absurd h List.not_mem_nil) (by decide +kernel)
/-- NameNotes.part  -/
def le_910 : ab_CN := ([(1, 0, 13824), (1, 0, 59049), (0, 0, 0)], [(0, 0)], [], [], [([(1, 0, 512)], [(0, 0)], [], [], [])])
theorem lf_910 (l : Launch) (cy : Nat → ClassId) (ad wr cr : Nat → Nat) (D : va_G) (hinj : nn_inj ad) : nn_H l cy ad wr cr D (193, 0, le_910) := nn_hold (fuel := 154) (sp := []) (HD := []) (HN := []) (mu := ((0, [], []), (0, [], []), (0, [], []))) (KS := []) (NS := []) hinj nn_MT_code nn_KI1_ok nn_KJ1_ok nn_PF1_ok nn_PS1_ok nn_PM1_ok (fun _ h => absurd h List.not_mem_nil) (by decide +kernel)
/-- NameNotes.part  -/
def le_911 : ab_CN := ([(1, 0, 2160), (1, 0, 59049), (0, 0, 1)], [(0, 0)], [], [], [([(1, 0, 2187)], [(0, 0)], [], [], [])])
theorem lf_911 (l : Launch) (cy : Nat → ClassId) (ad wr cr : Nat → Nat) (D : va_G) (hinj : nn_inj ad) : nn_H l cy ad wr cr D (193, 0, le_911) := nn_hold (fuel := 105) (sp := []) (HD := []) (HN := []) (mu := ((0, [], []), (0, [], []), (0, [], []))) (KS := []) (NS := []) hinj nn_MT_code nn_KI1_ok nn_KJ1_ok nn_PF1_ok nn_PS1_ok nn_PM1_ok (fun _ h => absurd h List.not_mem_nil) (by decide +kernel)
/-- NameNotes.part  -/
def le_912 : ab_CN := ([(1, 0, 2160), (1, 0, 59049), (0, 0, 0)], [(0, 0)], [], [], [([(1, 0, 80)], [(0, 0)], [], [], [])])
theorem lf_912 (l : Launch) (cy : Nat → ClassId) (ad wr cr : Nat → Nat) (D : va_G) (hinj : nn_inj ad) : nn_H l cy ad wr cr D (193, 0, le_912) := nn_hold (fuel := 106) (sp := []) (HD := []) (HN := []) (mu := ((0, [], []), (0, [], []), (0, [], []))) (KS := []) (NS := []) hinj nn_MT_code nn_KI1_ok nn_KJ1_ok nn_PF1_ok nn_PS1_ok nn_PM1_ok (fun _ h => absurd h List.not_mem_nil) (by decide +kernel)
/-- NameNotes.part  -/
def le_913 : ab_CN := ([(1, 0, 297), (1, 0, 59049), (0, 0, 1)], [(0, 0)], [], [], [([(1, 0, 2187)], [(0, 0)], [], [], [])])
theorem lf_913 (l : Launch) (cy : Nat → ClassId) (ad wr cr : Nat → Nat) (D : va_G) (hinj : nn_inj ad) : nn_H l cy ad wr cr D (193, 0, le_913) := nn_hold (fuel := 105) (sp := []) (HD := []) (HN := []) (mu := ((0, [], []), (0, [], []), (0, [], []))) (KS := []) (NS := []) hinj nn_MT_code nn_KI1_ok nn_KJ1_ok nn_PF1_ok nn_PS1_ok nn_PM1_ok (fun _ h => absurd h List.not_mem_nil) (by decide +kernel)
/-- NameNotes.part  -/
def le_914 : ab_CN := ([(1, 0, 297), (1, 0, 59049), (0, 0, 0)], [(0, 0)], [], [], [([(1, 0, 11)], [(0, 0)], [], [], [])])
theorem lf_914 (l : Launch) (cy : Nat → ClassId) (ad wr cr : Nat → Nat) (D : va_G) (hinj : nn_inj ad) : nn_H l cy ad wr cr D (193, 0, le_914) := nn_hold (fuel := 106) (sp := []) (HD := []) (HN := []) (mu := ((0, [], []), (0, [], []), (0, [], []))) (KS := []) (NS := []) hinj nn_MT_code nn_KI1_ok nn_KJ1_ok nn_PF1_ok nn_PS1_ok nn_PM1_ok (fun _ h => absurd h List.not_mem_nil) (by decide +kernel)
/-- NameNotes.at 90 -/
def le_915 : ab_CN := ([(2, 90, 0), (0, 0, 0)], [(0, 0), ((-2147483648), 2147483647), ((-2147483648), 2147483647), ((-2147483648), 2147483647), ((-2147483648), 2147483647), ((-2147483648), 2147483647), ((-2147483648), 2147483647), ((-2147483648), 2147483647), ((-2147483648), 2147483647), ((-2147483648), 2147483647), ((-2147483648), 2147483647), ((-2147483648), 2147483647), ((-2147483648), 2147483647), ((-2147483648), 2147483647), ((-2147483648), 2147483647), ((-2147483648), 2147483647), ((-2147483648), 2147483647), ((-2147483648), 2147483647), ((-2147483648), 2147483647)], [], [((90, 0), (1, 0)), ((90, 1), (2, 0)), ((90, 2), (3, 0)), ((90, 3), (4, 0)), ((90, 4), (5, 0)), ((90, 5), (6, 0)), ((90, 6), (7, 0)), ((90, 7), (8, 0)), ((90, 8), (9, 0)), ((91, 0), (10, 0)), ((91, 1), (11, 0)), ((91, 2), (12, 0)), ((91, 3), (13, 0)), ((91, 4), (14, 0)), ((91, 5), (15, 0)), ((91, 6), (16, 0)), ((91, 7), (17, 0)), ((91, 8), (18, 0))], [([(0, 1, 0)], [(0, 0), ((-2147483648), 2147483647), ((-2147483648), 2147483647), ((-2147483648), 2147483647), ((-2147483648), 2147483647), ((-2147483648), 2147483647), ((-2147483648), 2147483647), ((-2147483648), 2147483647), ((-2147483648), 2147483647), ((-2147483648), 2147483647), ((-2147483648), 2147483647), ((-2147483648), 2147483647), ((-2147483648), 2147483647), ((-2147483648), 2147483647), ((-2147483648), 2147483647), ((-2147483648), 2147483647), ((-2147483648), 2147483647), ((-2147483648), 2147483647), ((-2147483648), 2147483647)], [], [], [])])
theorem lf_915 (l : Launch) (cy : Nat → ClassId) (ad wr cr : Nat → Nat) (D : va_G) (hinj : nn_inj ad) : nn_H l cy ad wr cr D (29, 0, le_915) := nn_hold (fuel := 17) (sp := []) (HD := []) (HN := []) (mu := ((0, [], []), (0, [], []), (0, [], []))) (KS := []) (NS := []) hinj nn_MT_code nn_KI1_ok nn_KJ1_ok nn_PF1_ok nn_PS1_ok nn_PM1_ok (fun _ h => absurd h List.not_mem_nil) (by decide +kernel)
/-- NameNotes.scored 0 -/
def le_916 : ab_CN := ([(2, 0, 0), (0, 0, 0), (0, 0, 0)], [(0, 0), ((-2147483648), 2147483647), ((-2147483648), 2147483647), ((-2147483648), 2147483647), ((-2147483648), 2147483647), ((-2147483648), 2147483647), ((-2147483648), 2147483647), ((-2147483648), 2147483647), ((-2147483648), 2147483647), ((-2147483648), 2147483647)], [], [((90, 0), (1, 0)), ((90, 1), (2, 0)), ((90, 2), (3, 0)), ((90, 3), (4, 0)), ((90, 4), (5, 0)), ((90, 5), (6, 0)), ((90, 6), (7, 0)), ((90, 7), (8, 0)), ((90, 8), (9, 0))], [([(0, 1, 0)], [(0, 0), ((-2147483648), 2147483647), ((-2147483648), 2147483647), ((-2147483648), 2147483647), ((-2147483648), 2147483647), ((-2147483648), 2147483647), ((-2147483648), 2147483647), ((-2147483648), 2147483647), ((-2147483648), 2147483647), ((-2147483648), 2147483647)], [], [], [])])
theorem lf_916 (l : Launch) (cy : Nat → ClassId) (ad wr cr : Nat → Nat) (D : va_G) (hinj : nn_inj ad) : nn_H l cy ad wr cr D (138, 1, le_916) := nn_hold (fuel := 19) (sp := []) (HD := []) (HN := []) (mu := ((0, [], []), (0, [], []), (0, [], []))) (KS := [(29, 0, le_915)]) (NS := []) hinj nn_MT_code nn_KI1_ok nn_KJ1_ok nn_PF1_ok nn_PS1_ok nn_PM1_ok (List.forall_mem_cons.mpr ⟨lf_915 l cy ad wr cr D hinj, fun _ h => absurd h List.not_mem_nil⟩) (by decide +kernel)
/-- NameNotes.part  -/
def le_917 : ab_CN := ([(1, 0, 58368), (1, 0, 59049), (0, 0, 1)], [(0, 0)], [], [], [([(1, 0, 19683)], [(0, 0)], [], [], [])])
theorem lf_917 (l : Launch) (cy : Nat → ClassId) (ad wr cr : Nat → Nat) (D : va_G) (hinj : nn_inj ad) : nn_H l cy ad wr cr D (193, 0, le_917) := nn_hold (fuel := 201) (sp := []) (HD := []) (HN := []) (mu := ((0, [], []), (0, [], []), (0, [], []))) (KS := []) (NS := []) hinj nn_MT_code nn_KI1_ok nn_KJ1_ok nn_PF1_ok nn_PS1_ok nn_PM1_ok (fun _ h => absurd h List.not_mem_nil) (by decide +kernel)
/-- NameNotes.part  -/
def le_918 : ab_CN := ([(1, 0, 58368), (1, 0, 59049), (0, 0, 0)], [(0, 0)], [], [], [([(1, 0, 19456)], [(0, 0)], [], [], [])])
theorem lf_918 (l : Launch) (cy : Nat → ClassId) (ad wr cr : Nat → Nat) (D : va_G) (hinj : nn_inj ad) : nn_H l cy ad wr cr D (193, 0, le_918) := nn_hold (fuel := 202) (sp := []) (HD := []) (HN := []) (mu := ((0, [], []), (0, [], []), (0, [], []))) (KS := []) (NS := []) hinj nn_MT_code nn_KI1_ok nn_KJ1_ok nn_PF1_ok nn_PS1_ok nn_PM1_ok (fun _ h => absurd h List.not_mem_nil) (by decide +kernel)
/-- NameNotes.part  -/
def le_919 : ab_CN := ([(1, 0, 54537), (1, 0, 59049), (0, 0, 1)], [(0, 0)], [], [], [([(1, 0, 19683)], [(0, 0)], [], [], [])])
theorem lf_919 (l : Launch) (cy : Nat → ClassId) (ad wr cr : Nat → Nat) (D : va_G) (hinj : nn_inj ad) : nn_H l cy ad wr cr D (193, 0, le_919) := nn_hold (fuel := 169) (sp := []) (HD := []) (HN := []) (mu := ((0, [], []), (0, [], []), (0, [], []))) (KS := []) (NS := []) hinj nn_MT_code nn_KI1_ok nn_KJ1_ok nn_PF1_ok nn_PS1_ok nn_PM1_ok (fun _ h => absurd h List.not_mem_nil) (by decide +kernel)
/-- NameNotes.part  -/
def le_920 : ab_CN := ([(1, 0, 54537), (1, 0, 59049), (0, 0, 0)], [(0, 0)], [], [], [([(1, 0, 18179)], [(0, 0)], [], [], [])])
theorem lf_920 (l : Launch) (cy : Nat → ClassId) (ad wr cr : Nat → Nat) (D : va_G) (hinj : nn_inj ad) : nn_H l cy ad wr cr D (193, 0, le_920) := nn_hold (fuel := 170) (sp := []) (HD := []) (HN := []) (mu := ((0, [], []), (0, [], []), (0, [], []))) (KS := []) (NS := []) hinj nn_MT_code nn_KI1_ok nn_KJ1_ok nn_PF1_ok nn_PS1_ok nn_PM1_ok (fun _ h => absurd h List.not_mem_nil) (by decide +kernel)
/-- NameNotes.part  -/
def le_921 : ab_CN := ([(1, 0, 35625), (1, 0, 59049), (0, 0, 1)], [(0, 0)], [], [], [([(1, 0, 19683)], [(0, 0)], [], [], [])])
theorem lf_921 (l : Launch) (cy : Nat → ClassId) (ad wr cr : Nat → Nat) (D : va_G) (hinj : nn_inj ad) : nn_H l cy ad wr cr D (193, 0, le_921) := nn_hold (fuel := 201) (sp := []) (HD := []) (HN := []) (mu := ((0, [], []), (0, [], []), (0, [], []))) (KS := []) (NS := []) hinj nn_MT_code nn_KI1_ok nn_KJ1_ok nn_PF1_ok nn_PS1_ok nn_PM1_ok (fun _ h => absurd h List.not_mem_nil) (by decide +kernel)
/-- NameNotes.part  -/
def le_922 : ab_CN := ([(1, 0, 35625), (1, 0, 59049), (0, 0, 0)], [(0, 0)], [], [], [([(1, 0, 11875)], [(0, 0)], [], [], [])])
theorem lf_922 (l : Launch) (cy : Nat → ClassId) (ad wr cr : Nat → Nat) (D : va_G) (hinj : nn_inj ad) : nn_H l cy ad wr cr D (193, 0, le_922) := nn_hold (fuel := 202) (sp := []) (HD := []) (HN := []) (mu := ((0, [], []), (0, [], []), (0, [], []))) (KS := []) (NS := []) hinj nn_MT_code nn_KI1_ok nn_KJ1_ok nn_PF1_ok nn_PS1_ok nn_PM1_ok (fun _ h => absurd h List.not_mem_nil) (by decide +kernel)
/-- NameNotes.part  -/
def le_923 : ab_CN := ([(1, 0, 23424), (1, 0, 59049), (0, 0, 1)], [(0, 0)], [], [], [([(1, 0, 19683)], [(0, 0)], [], [], [])])
theorem lf_923 (l : Launch) (cy : Nat → ClassId) (ad wr cr : Nat → Nat) (D : va_G) (hinj : nn_inj ad) : nn_H l cy ad wr cr D (193, 0, le_923) := nn_hold (fuel := 185) (sp := []) (HD := []) (HN := []) (mu := ((0, [], []), (0, [], []), (0, [], []))) (KS := []) (NS := []) hinj nn_MT_code nn_KI1_ok nn_KJ1_ok nn_PF1_ok nn_PS1_ok nn_PM1_ok (fun _ h => absurd h List.not_mem_nil) (by decide +kernel)
/-- NameNotes.part  -/
def le_924 : ab_CN := ([(1, 0, 23424), (1, 0, 59049), (0, 0, 0)], [(0, 0)], [], [], [([(1, 0, 7808)], [(0, 0)], [], [], [])])
theorem lf_924 (l : Launch) (cy : Nat → ClassId) (ad wr cr : Nat → Nat) (D : va_G) (hinj : nn_inj ad) : nn_H l cy ad wr cr D (193, 0, le_924) := nn_hold (fuel := 186) (sp := []) (HD := []) (HN := []) (mu := ((0, [], []), (0, [], []), (0, [], []))) (KS := []) (NS := []) hinj nn_MT_code nn_KI1_ok nn_KJ1_ok nn_PF1_ok nn_PS1_ok nn_PM1_ok (fun _ h => absurd h List.not_mem_nil) (by decide +kernel)
/-- NameNotes.part  -/
def le_925 : ab_CN := ([(1, 0, 4512), (1, 0, 59049), (0, 0, 1)], [(0, 0)], [], [], [([(1, 0, 19683)], [(0, 0)], [], [], [])])
theorem lf_925 (l : Launch) (cy : Nat → ClassId) (ad wr cr : Nat → Nat) (D : va_G) (hinj : nn_inj ad) : nn_H l cy ad wr cr D (193, 0, le_925) := nn_hold (fuel := 153) (sp := []) (HD := []) (HN := []) (mu := ((0, [], []), (0, [], []), (0, [], []))) (KS := []) (NS := []) hinj nn_MT_code nn_KI1_ok nn_KJ1_ok nn_PF1_ok nn_PS1_ok nn_PM1_ok (fun _ h => absurd h List.not_mem_nil) (by decide +kernel)
/-- NameNotes.part  -/
def le_926 : ab_CN := ([(1, 0, 4512), (1, 0, 59049), (0, 0, 0)], [(0, 0)], [], [], [([(1, 0, 1504)], [(0, 0)], [], [], [])])
theorem lf_926 (l : Launch) (cy : Nat → ClassId) (ad wr cr : Nat → Nat) (D : va_G) (hinj : nn_inj ad) : nn_H l cy ad wr cr D (193, 0, le_926) := nn_hold (fuel := 154) (sp := []) (HD := []) (HN := []) (mu := ((0, [], []), (0, [], []), (0, [], []))) (KS := []) (NS := []) hinj nn_MT_code nn_KI1_ok nn_KJ1_ok nn_PF1_ok nn_PS1_ok nn_PM1_ok (fun _ h => absurd h List.not_mem_nil) (by decide +kernel)
/-- NameNotes.part  -/
def le_927 : ab_CN := ([(1, 0, 681), (1, 0, 59049), (0, 0, 1)], [(0, 0)], [], [], [([(1, 0, 19683)], [(0, 0)], [], [], [])])
theorem lf_927 (l : Launch) (cy : Nat → ClassId) (ad wr cr : Nat → Nat) (D : va_G) (hinj : nn_inj ad) : nn_H l cy ad wr cr D (193, 0, le_927) := nn_hold (fuel := 185) (sp := []) (HD := []) (HN := []) (mu := ((0, [], []), (0, [], []), (0, [], []))) (KS := []) (NS := []) hinj nn_MT_code nn_KI1_ok nn_KJ1_ok nn_PF1_ok nn_PS1_ok nn_PM1_ok (fun _ h => absurd h List.not_mem_nil) (by decide +kernel)
/-- NameNotes.part  -/
def le_928 : ab_CN := ([(1, 0, 681), (1, 0, 59049), (0, 0, 0)], [(0, 0)], [], [], [([(1, 0, 227)], [(0, 0)], [], [], [])])
theorem lf_928 (l : Launch) (cy : Nat → ClassId) (ad wr cr : Nat → Nat) (D : va_G) (hinj : nn_inj ad) : nn_H l cy ad wr cr D (193, 0, le_928) := nn_hold (fuel := 186) (sp := []) (HD := []) (HN := []) (mu := ((0, [], []), (0, [], []), (0, [], []))) (KS := []) (NS := []) hinj nn_MT_code nn_KI1_ok nn_KJ1_ok nn_PF1_ok nn_PS1_ok nn_PM1_ok (fun _ h => absurd h List.not_mem_nil) (by decide +kernel)
