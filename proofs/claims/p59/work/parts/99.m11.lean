/-- NameNotesModel.holds 93 -/
def md_358 : ab_CN := ([(2, 93, 0), (0, 1, 0), (0, 2, 0)], [(0, 0), (27, 27), (0, 8), (0, 38)], [(1, 3, 0)], [((95, 233), (3, 0))], [([(0, 4, 0)], [(0, 0), (27, 27), (0, 8), (0, 38), (0, 1)], [], [], [])])
theorem mt_358 (l : Launch) (cy : Nat → ClassId) (ad wr cr : Nat → Nat) (D : va_G) (hinj : nn_inj ad) : nn_H l cy ad wr cr D (351, 57, md_358) := sorry
/-- NameNotesModel.holds 93 -/
def md_359 : ab_CN := ([(2, 93, 0), (0, 1, 0), (0, 2, 0)], [(0, 0), (0, 27), (0, 8), (0, 38)], [(1, 3, 0)], [((95, 233), (3, 0))], [([(0, 4, 0)], [(0, 0), (0, 27), (0, 8), (0, 38), (0, 1)], [], [], [])])
theorem mt_359 (l : Launch) (cy : Nat → ClassId) (ad wr cr : Nat → Nat) (D : va_G) (hinj : nn_inj ad) : nn_H l cy ad wr cr D (351, 58, md_359) := sorry
/-- NameNotesModel.holds 93 -/
def md_360 : ab_CN := ([(2, 93, 0), (0, 1, 0), (0, 2, 0)], [(0, 0), (28, 28), (0, 8), (0, 38)], [(1, 3, 0)], [((95, 233), (3, 0))], [([(0, 4, 0)], [(0, 0), (28, 28), (0, 8), (0, 38), (0, 1)], [], [], [])])
theorem mt_360 (l : Launch) (cy : Nat → ClassId) (ad wr cr : Nat → Nat) (D : va_G) (hinj : nn_inj ad) : nn_H l cy ad wr cr D (351, 59, md_360) := sorry
/-- NameNotesModel.holds 93 -/
def md_361 : ab_CN := ([(2, 93, 0), (0, 1, 0), (0, 2, 0)], [(0, 0), (0, 28), (0, 8), (0, 38)], [(1, 3, 0)], [((95, 233), (3, 0))], [([(0, 4, 0)], [(0, 0), (0, 28), (0, 8), (0, 38), (0, 1)], [], [], [])])
theorem mt_361 (l : Launch) (cy : Nat → ClassId) (ad wr cr : Nat → Nat) (D : va_G) (hinj : nn_inj ad) : nn_H l cy ad wr cr D (351, 60, md_361) := sorry
/-- NameNotesModel.holds 93 -/
def md_362 : ab_CN := ([(2, 93, 0), (0, 1, 0), (0, 2, 0)], [(0, 0), (29, 29), (0, 8), (0, 38)], [(1, 3, 0)], [((95, 233), (3, 0))], [([(0, 4, 0)], [(0, 0), (29, 29), (0, 8), (0, 38), (0, 1)], [], [], [])])
theorem mt_362 (l : Launch) (cy : Nat → ClassId) (ad wr cr : Nat → Nat) (D : va_G) (hinj : nn_inj ad) : nn_H l cy ad wr cr D (351, 61, md_362) := sorry
/-- NameNotesModel.holds 93 -/
def md_363 : ab_CN := ([(2, 93, 0), (0, 1, 0), (0, 2, 0)], [(0, 0), (0, 29), (0, 8), (0, 38)], [(1, 3, 0)], [((95, 233), (3, 0))], [([(0, 4, 0)], [(0, 0), (0, 29), (0, 8), (0, 38), (0, 1)], [], [], [])])
theorem mt_363 (l : Launch) (cy : Nat → ClassId) (ad wr cr : Nat → Nat) (D : va_G) (hinj : nn_inj ad) : nn_H l cy ad wr cr D (351, 62, md_363) := sorry
/-- NameNotesModel.holds 93 -/
def md_364 : ab_CN := ([(2, 93, 0), (0, 1, 0), (0, 2, 0)], [(0, 0), (30, 30), (0, 8), (0, 38)], [(1, 3, 0)], [((95, 233), (3, 0))], [([(0, 4, 0)], [(0, 0), (30, 30), (0, 8), (0, 38), (0, 1)], [], [], [])])
theorem mt_364 (l : Launch) (cy : Nat → ClassId) (ad wr cr : Nat → Nat) (D : va_G) (hinj : nn_inj ad) : nn_H l cy ad wr cr D (351, 63, md_364) := sorry
/-- NameNotesModel.holds 93 -/
def md_365 : ab_CN := ([(2, 93, 0), (0, 1, 0), (0, 2, 0)], [(0, 0), (0, 30), (0, 8), (0, 38)], [(1, 3, 0)], [((95, 233), (3, 0))], [([(0, 4, 0)], [(0, 0), (0, 30), (0, 8), (0, 38), (0, 1)], [], [], [])])
theorem mt_365 (l : Launch) (cy : Nat → ClassId) (ad wr cr : Nat → Nat) (D : va_G) (hinj : nn_inj ad) : nn_H l cy ad wr cr D (351, 64, md_365) := sorry
/-- NameNotesModel.holds 93 -/
def md_366 : ab_CN := ([(2, 93, 0), (0, 1, 0), (0, 2, 0)], [(0, 0), (31, 31), (0, 8), (0, 38)], [(1, 3, 0)], [((95, 233), (3, 0))], [([(0, 4, 0)], [(0, 0), (31, 31), (0, 8), (0, 38), (0, 1)], [], [], [])])
theorem mt_366 (l : Launch) (cy : Nat → ClassId) (ad wr cr : Nat → Nat) (D : va_G) (hinj : nn_inj ad) : nn_H l cy ad wr cr D (351, 65, md_366) := sorry
/-- NameNotesModel.holds 93 -/
def md_367 : ab_CN := ([(2, 93, 0), (0, 1, 0), (0, 2, 0)], [(0, 0), (0, 31), (0, 8), (0, 38)], [(1, 3, 0)], [((95, 233), (3, 0))], [([(0, 4, 0)], [(0, 0), (0, 31), (0, 8), (0, 38), (0, 1)], [], [], [])])
theorem mt_367 (l : Launch) (cy : Nat → ClassId) (ad wr cr : Nat → Nat) (D : va_G) (hinj : nn_inj ad) : nn_H l cy ad wr cr D (351, 66, md_367) := sorry
/-- NameNotesModel.holds 93 -/
def md_368 : ab_CN := ([(2, 93, 0), (0, 1, 0), (0, 2, 0)], [(0, 0), (32, 32), (0, 8), (0, 38)], [(1, 3, 0)], [((95, 233), (3, 0))], [([(0, 4, 0)], [(0, 0), (32, 32), (0, 8), (0, 38), (0, 1)], [], [], [])])
theorem mt_368 (l : Launch) (cy : Nat → ClassId) (ad wr cr : Nat → Nat) (D : va_G) (hinj : nn_inj ad) : nn_H l cy ad wr cr D (351, 67, md_368) := sorry
/-- NameNotesModel.holds 93 -/
def md_369 : ab_CN := ([(2, 93, 0), (0, 1, 0), (0, 2, 0)], [(0, 0), (0, 32), (0, 8), (0, 38)], [(1, 3, 0)], [((95, 233), (3, 0))], [([(0, 4, 0)], [(0, 0), (0, 32), (0, 8), (0, 38), (0, 1)], [], [], [])])
theorem mt_369 (l : Launch) (cy : Nat → ClassId) (ad wr cr : Nat → Nat) (D : va_G) (hinj : nn_inj ad) : nn_H l cy ad wr cr D (351, 68, md_369) := sorry
/-- NameNotesModel.holds 93 -/
def md_370 : ab_CN := ([(2, 93, 0), (0, 1, 0), (0, 2, 0)], [(0, 0), (33, 33), (0, 8), (0, 38)], [(1, 3, 0)], [((95, 233), (3, 0))], [([(0, 4, 0)], [(0, 0), (33, 33), (0, 8), (0, 38), (0, 1)], [], [], [])])
theorem mt_370 (l : Launch) (cy : Nat → ClassId) (ad wr cr : Nat → Nat) (D : va_G) (hinj : nn_inj ad) : nn_H l cy ad wr cr D (351, 69, md_370) := sorry
/-- NameNotesModel.holds 93 -/
def md_371 : ab_CN := ([(2, 93, 0), (0, 1, 0), (0, 2, 0)], [(0, 0), (0, 33), (0, 8), (0, 38)], [(1, 3, 0)], [((95, 233), (3, 0))], [([(0, 4, 0)], [(0, 0), (0, 33), (0, 8), (0, 38), (0, 1)], [], [], [])])
theorem mt_371 (l : Launch) (cy : Nat → ClassId) (ad wr cr : Nat → Nat) (D : va_G) (hinj : nn_inj ad) : nn_H l cy ad wr cr D (351, 70, md_371) := sorry
/-- NameNotesModel.holds 93 -/
def md_372 : ab_CN := ([(2, 93, 0), (0, 1, 0), (0, 2, 0)], [(0, 0), (34, 34), (0, 8), (0, 38)], [(1, 3, 0)], [((95, 233), (3, 0))], [([(0, 4, 0)], [(0, 0), (34, 34), (0, 8), (0, 38), (0, 1)], [], [], [])])
theorem mt_372 (l : Launch) (cy : Nat → ClassId) (ad wr cr : Nat → Nat) (D : va_G) (hinj : nn_inj ad) : nn_H l cy ad wr cr D (351, 71, md_372) := sorry
/-- NameNotesModel.holds 93 -/
def md_373 : ab_CN := ([(2, 93, 0), (0, 1, 0), (0, 2, 0)], [(0, 0), (0, 34), (0, 8), (0, 38)], [(1, 3, 0)], [((95, 233), (3, 0))], [([(0, 4, 0)], [(0, 0), (0, 34), (0, 8), (0, 38), (0, 1)], [], [], [])])
theorem mt_373 (l : Launch) (cy : Nat → ClassId) (ad wr cr : Nat → Nat) (D : va_G) (hinj : nn_inj ad) : nn_H l cy ad wr cr D (351, 72, md_373) := sorry
/-- NameNotesModel.holds 93 -/
def md_374 : ab_CN := ([(2, 93, 0), (0, 1, 0), (0, 2, 0)], [(0, 0), (35, 35), (0, 8), (0, 38)], [(1, 3, 0)], [((95, 233), (3, 0))], [([(0, 4, 0)], [(0, 0), (35, 35), (0, 8), (0, 38), (0, 1)], [], [], [])])
theorem mt_374 (l : Launch) (cy : Nat → ClassId) (ad wr cr : Nat → Nat) (D : va_G) (hinj : nn_inj ad) : nn_H l cy ad wr cr D (351, 73, md_374) := sorry
/-- NameNotesModel.holds 93 -/
def md_375 : ab_CN := ([(2, 93, 0), (0, 1, 0), (0, 2, 0)], [(0, 0), (0, 35), (0, 8), (0, 38)], [(1, 3, 0)], [((95, 233), (3, 0))], [([(0, 4, 0)], [(0, 0), (0, 35), (0, 8), (0, 38), (0, 1)], [], [], [])])
theorem mt_375 (l : Launch) (cy : Nat → ClassId) (ad wr cr : Nat → Nat) (D : va_G) (hinj : nn_inj ad) : nn_H l cy ad wr cr D (351, 74, md_375) := sorry
/-- NameNotesModel.holds 93 -/
def md_376 : ab_CN := ([(2, 93, 0), (0, 1, 0), (0, 2, 0)], [(0, 0), (36, 36), (0, 8), (0, 38)], [(1, 3, 0)], [((95, 233), (3, 0))], [([(0, 4, 0)], [(0, 0), (36, 36), (0, 8), (0, 38), (0, 1)], [], [], [])])
theorem mt_376 (l : Launch) (cy : Nat → ClassId) (ad wr cr : Nat → Nat) (D : va_G) (hinj : nn_inj ad) : nn_H l cy ad wr cr D (351, 75, md_376) := sorry
/-- NameNotesModel.holds 93 -/
def md_377 : ab_CN := ([(2, 93, 0), (0, 1, 0), (0, 2, 0)], [(0, 0), (0, 36), (0, 8), (0, 38)], [(1, 3, 0)], [((95, 233), (3, 0))], [([(0, 4, 0)], [(0, 0), (0, 36), (0, 8), (0, 38), (0, 1)], [], [], [])])
theorem mt_377 (l : Launch) (cy : Nat → ClassId) (ad wr cr : Nat → Nat) (D : va_G) (hinj : nn_inj ad) : nn_H l cy ad wr cr D (351, 76, md_377) := sorry
/-- NameNotesModel.holds 93 -/
def md_378 : ab_CN := ([(2, 93, 0), (0, 1, 0), (0, 2, 0)], [(0, 0), (37, 37), (0, 8), (0, 38)], [(1, 3, 0)], [((95, 233), (3, 0))], [([(0, 4, 0)], [(0, 0), (37, 37), (0, 8), (0, 38), (0, 1)], [], [], [])])
theorem mt_378 (l : Launch) (cy : Nat → ClassId) (ad wr cr : Nat → Nat) (D : va_G) (hinj : nn_inj ad) : nn_H l cy ad wr cr D (351, 77, md_378) := sorry
/-- NameNotesModel.holds 93 -/
def md_379 : ab_CN := ([(2, 93, 0), (0, 1, 0), (0, 2, 0)], [(0, 0), (0, 37), (0, 8), (0, 38)], [(1, 3, 0)], [((95, 233), (3, 0))], [([(0, 4, 0)], [(0, 0), (0, 37), (0, 8), (0, 38), (0, 1)], [], [], [])])
theorem mt_379 (l : Launch) (cy : Nat → ClassId) (ad wr cr : Nat → Nat) (D : va_G) (hinj : nn_inj ad) : nn_H l cy ad wr cr D (351, 78, md_379) := sorry
/-- NameNotesModel.holds 93 -/
def md_380 : ab_CN := ([(2, 93, 0), (0, 1, 0), (0, 2, 0)], [(0, 0), (38, 38), (0, 8), (0, 38)], [(1, 3, 0)], [((95, 233), (3, 0))], [([(0, 4, 0)], [(0, 0), (38, 38), (0, 8), (0, 38), (0, 1)], [], [], [])])
theorem mt_380 (l : Launch) (cy : Nat → ClassId) (ad wr cr : Nat → Nat) (D : va_G) (hinj : nn_inj ad) : nn_H l cy ad wr cr D (351, 79, md_380) := sorry
/-- NameNotesModel.holds 93 -/
def md_381 : ab_CN := ([(2, 93, 0), (0, 1, 0), (0, 2, 0)], [(0, 0), (0, 38), (0, 8), (0, 38)], [(1, 3, 0)], [((95, 233), (3, 0))], [([(0, 4, 0)], [(0, 0), (0, 38), (0, 8), (0, 38), (0, 1)], [], [], [])])
theorem mt_381 (l : Launch) (cy : Nat → ClassId) (ad wr cr : Nat → Nat) (D : va_G) (hinj : nn_inj ad) : nn_H l cy ad wr cr D (351, 80, md_381) := sorry
/-- NameNotesModel.said 93 -/
def md_382 : ab_CN := ([(2, 93, 0), (0, 1, 0)], [(0, 0), ((-2147483648), 2147483647), (0, 9)], [], [((95, 0), (2, 0))], [([(0, 0, (-1))], [(0, 0), ((-2147483648), 2147483647), (0, 9)], [], [((93, 0), (0, 0))], [(93, 0)]),
    ([(0, 3, 0)], [(0, 0), ((-2147483648), 2147483647), (0, 9), ((-2147483648), 2147483647)], [], [((93, 0), (0, 0))], [(93, 0)])])
theorem mt_382 (l : Launch) (cy : Nat → ClassId) (ad wr cr : Nat → Nat) (D : va_G) (hinj : nn_inj ad) : nn_H l cy ad wr cr D (350, 81, md_382) := sorry
/-- NameNotesModel.count 93 -/
def md_385 : ab_CN := ([(2, 93, 0), (0, 1, 0)], [(0, 0), ((-2147483648), 2147483647), (0, 940), (0, 9), (0, 6), (0, 5)], [], [((93, 2), (2, 0)), ((95, 0), (3, 0)), ((95, 1), (4, 0)), ((95, 2), (5, 0))], [([(0, 2, 0)], [(0, 0), (4, 4), (0, 940), (0, 9), (0, 6), (0, 5), (1, 1)], [], [((93, 22), (6, 0)), ((93, 0), (0, 0))], [(93, 0), (93, 22), (95, 3)]),
    ([(0, 6, 0)], [(0, 0), (3, 3), (0, 940), (0, 9), (0, 6), (0, 5), (0, 9), (1, 1)], [], [((93, 22), (7, 0)), ((93, 0), (0, 0)), ((95, 3), (6, 0))], [(93, 0), (93, 22), (95, 3)]),
    ([(0, 5, 0)], [(0, 0), (2, 2), (0, 940), (0, 9), (0, 6), (0, 5), (1, 1)], [], [((93, 22), (6, 0)), ((93, 0), (0, 0))], [(93, 0), (93, 22), (95, 3)]),
    ([(0, 4, 0)], [(0, 0), (1, 1), (0, 940), (0, 9), (0, 6), (0, 5), (1, 1)], [], [((93, 22), (6, 0)), ((93, 0), (0, 0))], [(93, 0), (93, 22), (95, 3)]),
    ([(0, 3, 0)], [(0, 0), (0, 0), (0, 940), (0, 9), (0, 6), (0, 5), (1, 1)], [], [((93, 22), (6, 0)), ((93, 0), (0, 0))], [(93, 0), (93, 22), (95, 3)]),
    ([(0, 0, (-1))], [(0, 0), ((-2147483648), 2147483647), (0, 940), (0, 9), (0, 6), (0, 5), (1, 1)], [], [((93, 22), (6, 0)), ((93, 0), (0, 0))], [(93, 0), (93, 22), (95, 3)])])
theorem mt_385 (l : Launch) (cy : Nat → ClassId) (ad wr cr : Nat → Nat) (D : va_G) (hinj : nn_inj ad) : nn_H l cy ad wr cr D (354, 1, md_385) := sorry
