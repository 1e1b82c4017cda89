/-! contracts of the reference by hand: how many bits, which bit -/
/-- bits, by hand -/
def gd_bits1 : ab_CN := ([(0, 1, 0)], [(0, 0), (1, 511)], [], [], [([(0, 2, 0)], [(0, 0), (1, 511), (1, 9)], [], [((131, 2001000), (2, 0))], [])])
/-- bits, by hand -/
def gd_bits0 : ab_CN := ([(0, 1, 0)], [(0, 0), (0, 511)], [], [], [([(0, 2, 0)], [(0, 0), (0, 511), (0, 9)], [], [((131, 2001000), (2, 0))], [])])
/-- has, by hand -/
def gd_has0 : ab_CN := ([(0, 1, 0), (0, 0, 0)], [(0, 0), (0, 511)], [], [], [([(0, 0, 0)], [(0, 0), (0, 511)], [], [((132, 2001000), (0, 0))], []),
    ([(0, 0, 1)], [(0, 0), (0, 511)], [], [((132, 2001000), (0, 1))], [])])
/-- has, by hand -/
def gd_has1 : ab_CN := ([(0, 1, 0), (0, 0, 1)], [(0, 0), (0, 511), (0, 9)], [], [((132, 2001000), (2, 0))], [([(0, 0, 0)], [(0, 0), (0, 511), (0, 9)], [], [((133, 2001000), (2, 0))], []),
    ([(0, 0, 1)], [(0, 0), (0, 511), (0, 9)], [], [((133, 2001000), (2, 1))], [])])
/-- has, by hand -/
def gd_has2 : ab_CN := ([(0, 1, 0), (0, 0, 2)], [(0, 0), (0, 511), (0, 9)], [], [((133, 2001000), (2, 0))], [([(0, 0, 0)], [(0, 0), (0, 511), (0, 9)], [], [((134, 2001000), (2, 0))], []),
    ([(0, 0, 1)], [(0, 0), (0, 511), (0, 9)], [], [((134, 2001000), (2, 1))], [])])
/-- has, by hand -/
def gd_has3 : ab_CN := ([(0, 1, 0), (0, 0, 3)], [(0, 0), (0, 511), (0, 9)], [], [((134, 2001000), (2, 0))], [([(0, 0, 0)], [(0, 0), (0, 511), (0, 9)], [], [((135, 2001000), (2, 0))], []),
    ([(0, 0, 1)], [(0, 0), (0, 511), (0, 9)], [], [((135, 2001000), (2, 1))], [])])
/-- has, by hand -/
def gd_has4 : ab_CN := ([(0, 1, 0), (0, 0, 4)], [(0, 0), (0, 511), (0, 9)], [], [((135, 2001000), (2, 0))], [([(0, 0, 0)], [(0, 0), (0, 511), (0, 9)], [], [((136, 2001000), (2, 0))], []),
    ([(0, 0, 1)], [(0, 0), (0, 511), (0, 9)], [], [((136, 2001000), (2, 1))], [])])
/-- has, by hand -/
def gd_has5 : ab_CN := ([(0, 1, 0), (0, 0, 5)], [(0, 0), (0, 511), (0, 9)], [], [((136, 2001000), (2, 0))], [([(0, 0, 0)], [(0, 0), (0, 511), (0, 9)], [], [((137, 2001000), (2, 0))], []),
    ([(0, 0, 1)], [(0, 0), (0, 511), (0, 9)], [], [((137, 2001000), (2, 1))], [])])
/-- has, by hand -/
def gd_has6 : ab_CN := ([(0, 1, 0), (0, 0, 6)], [(0, 0), (0, 511), (0, 9)], [], [((137, 2001000), (2, 0))], [([(0, 0, 0)], [(0, 0), (0, 511), (0, 9)], [], [((138, 2001000), (2, 0))], []),
    ([(0, 0, 1)], [(0, 0), (0, 511), (0, 9)], [], [((138, 2001000), (2, 1))], [])])
/-- has, by hand -/
def gd_has7 : ab_CN := ([(0, 1, 0), (0, 0, 7)], [(0, 0), (0, 511), (0, 9)], [], [((138, 2001000), (2, 0))], [([(0, 0, 0)], [(0, 0), (0, 511), (0, 9)], [], [((139, 2001000), (2, 0))], []),
    ([(0, 0, 1)], [(0, 0), (0, 511), (0, 9)], [], [((139, 2001000), (2, 1))], [])])
/-- has, by hand -/
def gd_has8 : ab_CN := ([(0, 1, 0), (0, 0, 8)], [(0, 0), (0, 511), (0, 9), (0, 9)], [], [((139, 2001000), (2, 0)), ((131, 2001000), (3, 0))], [([(0, 0, 0)], [(0, 0), (0, 511), (0, 9), (0, 9)], [(3, 2, 0), (2, 3, 0)], [], []),
    ([(0, 0, 1)], [(0, 0), (0, 511), (0, 9), (0, 9)], [(3, 2, 1), (2, 3, (-1))], [], [])])
theorem gt_bits1 (l : Launch) (cy : Nat → ClassId) (ad wr cr : Nat → Nat) (D : va_G) (hinj : nn_inj ad) : nn_H l cy ad wr cr D (274, 0, gd_bits1) := by
  sorry
theorem gt_bits0 (l : Launch) (cy : Nat → ClassId) (ad wr cr : Nat → Nat) (D : va_G) (hinj : nn_inj ad) : nn_H l cy ad wr cr D (274, 0, gd_bits0) := by
  sorry
theorem gt_has0 (l : Launch) (cy : Nat → ClassId) (ad wr cr : Nat → Nat) (D : va_G) (hinj : nn_inj ad) : nn_H l cy ad wr cr D (230, 0, gd_has0) := by
  sorry
theorem gt_has1 (l : Launch) (cy : Nat → ClassId) (ad wr cr : Nat → Nat) (D : va_G) (hinj : nn_inj ad) : nn_H l cy ad wr cr D (230, 0, gd_has1) := by
  sorry
theorem gt_has2 (l : Launch) (cy : Nat → ClassId) (ad wr cr : Nat → Nat) (D : va_G) (hinj : nn_inj ad) : nn_H l cy ad wr cr D (230, 0, gd_has2) := by
  sorry
theorem gt_has3 (l : Launch) (cy : Nat → ClassId) (ad wr cr : Nat → Nat) (D : va_G) (hinj : nn_inj ad) : nn_H l cy ad wr cr D (230, 0, gd_has3) := by
  sorry
theorem gt_has4 (l : Launch) (cy : Nat → ClassId) (ad wr cr : Nat → Nat) (D : va_G) (hinj : nn_inj ad) : nn_H l cy ad wr cr D (230, 0, gd_has4) := by
  sorry
theorem gt_has5 (l : Launch) (cy : Nat → ClassId) (ad wr cr : Nat → Nat) (D : va_G) (hinj : nn_inj ad) : nn_H l cy ad wr cr D (230, 0, gd_has5) := by
  sorry
theorem gt_has6 (l : Launch) (cy : Nat → ClassId) (ad wr cr : Nat → Nat) (D : va_G) (hinj : nn_inj ad) : nn_H l cy ad wr cr D (230, 0, gd_has6) := by
  sorry
theorem gt_has7 (l : Launch) (cy : Nat → ClassId) (ad wr cr : Nat → Nat) (D : va_G) (hinj : nn_inj ad) : nn_H l cy ad wr cr D (230, 0, gd_has7) := by
  sorry
theorem gt_has8 (l : Launch) (cy : Nat → ClassId) (ad wr cr : Nat → Nat) (D : va_G) (hinj : nn_inj ad) : nn_H l cy ad wr cr D (230, 0, gd_has8) := by
  sorry
