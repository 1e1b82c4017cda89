/-! contracts of the reference by hand: how many bits, which member -/
/-- bits, by hand -/
def gd_bits1 : ab_CN := ([(0, 1, 0)], [(0, 0), (1, 511)], [], [], [([(0, 2, 0)], [(0, 0), (1, 511), (1, 9)], [], [((131, 2001000), (2, 0))], [])])
/-- bits, by hand -/
def gd_bits0 : ab_CN := ([(0, 1, 0)], [(0, 0), (0, 511)], [], [], [([(0, 2, 0)], [(0, 0), (0, 511), (0, 9)], [], [((131, 2001000), (2, 0))], [])])
/-- member, by hand -/
def gd_member : ab_CN := ([(0, 1, 0), (0, 2, 0)], [(0, 0), (1, 511), (0, 8), (1, 9)], [(2, 3, (-1))], [((131, 2001000), (3, 0))], [([(0, 4, 0)], [(0, 0), (1, 511), (0, 8), (1, 9), (0, 8)], [], [], [])])
theorem gt_bits1 (l : Launch) (cy : Nat → ClassId) (ad wr cr : Nat → Nat) (D : va_G) (hinj : nn_inj ad) : nn_H l cy ad wr cr D (274, 0, gd_bits1) := by
  sorry
theorem gt_bits0 (l : Launch) (cy : Nat → ClassId) (ad wr cr : Nat → Nat) (D : va_G) (hinj : nn_inj ad) : nn_H l cy ad wr cr D (274, 0, gd_bits0) := by
  sorry
theorem gt_member (l : Launch) (cy : Nat → ClassId) (ad wr cr : Nat → Nat) (D : va_G) (hinj : nn_inj ad) : nn_H l cy ad wr cr D (337, 1, gd_member) := by
  sorry
