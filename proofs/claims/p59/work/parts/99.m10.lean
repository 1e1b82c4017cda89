/-- NameNotesModel.holds 93 -/
def md_318 : ab_CN := ([(2, 93, 0), (0, 1, 0), (0, 2, 0)], [(0, 0), (7, 7), (0, 8), (0, 38)], [(1, 3, 0)], [((95, 233), (3, 0))], [([(0, 4, 0)], [(0, 0), (7, 7), (0, 8), (0, 38), (0, 1)], [], [], [])])
theorem mt_318 (l : Launch) (cy : Nat → ClassId) (ad wr cr : Nat → Nat) (D : va_G) (hinj : nn_inj ad) : nn_H l cy ad wr cr D (351, 17, md_318) := sorry
/-- NameNotesModel.holds 93 -/
def md_319 : ab_CN := ([(2, 93, 0), (0, 1, 0), (0, 2, 0)], [(0, 0), (0, 7), (0, 8), (0, 38)], [(1, 3, 0)], [((95, 233), (3, 0))], [([(0, 4, 0)], [(0, 0), (0, 7), (0, 8), (0, 38), (0, 1)], [], [], [])])
theorem mt_319 (l : Launch) (cy : Nat → ClassId) (ad wr cr : Nat → Nat) (D : va_G) (hinj : nn_inj ad) : nn_H l cy ad wr cr D (351, 18, md_319) := sorry
/-- NameNotesModel.holds 93 -/
def md_320 : ab_CN := ([(2, 93, 0), (0, 1, 0), (0, 2, 0)], [(0, 0), (8, 8), (0, 8), (0, 38)], [(1, 3, 0)], [((95, 233), (3, 0))], [([(0, 4, 0)], [(0, 0), (8, 8), (0, 8), (0, 38), (0, 1)], [], [], [])])
theorem mt_320 (l : Launch) (cy : Nat → ClassId) (ad wr cr : Nat → Nat) (D : va_G) (hinj : nn_inj ad) : nn_H l cy ad wr cr D (351, 19, md_320) := sorry
/-- NameNotesModel.holds 93 -/
def md_321 : ab_CN := ([(2, 93, 0), (0, 1, 0), (0, 2, 0)], [(0, 0), (0, 8), (0, 8), (0, 38)], [(1, 3, 0)], [((95, 233), (3, 0))], [([(0, 4, 0)], [(0, 0), (0, 8), (0, 8), (0, 38), (0, 1)], [], [], [])])
theorem mt_321 (l : Launch) (cy : Nat → ClassId) (ad wr cr : Nat → Nat) (D : va_G) (hinj : nn_inj ad) : nn_H l cy ad wr cr D (351, 20, md_321) := sorry
/-- NameNotesModel.holds 93 -/
def md_322 : ab_CN := ([(2, 93, 0), (0, 1, 0), (0, 2, 0)], [(0, 0), (9, 9), (0, 8), (0, 38)], [(1, 3, 0)], [((95, 233), (3, 0))], [([(0, 4, 0)], [(0, 0), (9, 9), (0, 8), (0, 38), (0, 1)], [], [], [])])
theorem mt_322 (l : Launch) (cy : Nat → ClassId) (ad wr cr : Nat → Nat) (D : va_G) (hinj : nn_inj ad) : nn_H l cy ad wr cr D (351, 21, md_322) := sorry
/-- NameNotesModel.holds 93 -/
def md_323 : ab_CN := ([(2, 93, 0), (0, 1, 0), (0, 2, 0)], [(0, 0), (0, 9), (0, 8), (0, 38)], [(1, 3, 0)], [((95, 233), (3, 0))], [([(0, 4, 0)], [(0, 0), (0, 9), (0, 8), (0, 38), (0, 1)], [], [], [])])
theorem mt_323 (l : Launch) (cy : Nat → ClassId) (ad wr cr : Nat → Nat) (D : va_G) (hinj : nn_inj ad) : nn_H l cy ad wr cr D (351, 22, md_323) := sorry
/-- NameNotesModel.holds 93 -/
def md_324 : ab_CN := ([(2, 93, 0), (0, 1, 0), (0, 2, 0)], [(0, 0), (10, 10), (0, 8), (0, 38)], [(1, 3, 0)], [((95, 233), (3, 0))], [([(0, 4, 0)], [(0, 0), (10, 10), (0, 8), (0, 38), (0, 1)], [], [], [])])
theorem mt_324 (l : Launch) (cy : Nat → ClassId) (ad wr cr : Nat → Nat) (D : va_G) (hinj : nn_inj ad) : nn_H l cy ad wr cr D (351, 23, md_324) := sorry
/-- NameNotesModel.holds 93 -/
def md_325 : ab_CN := ([(2, 93, 0), (0, 1, 0), (0, 2, 0)], [(0, 0), (0, 10), (0, 8), (0, 38)], [(1, 3, 0)], [((95, 233), (3, 0))], [([(0, 4, 0)], [(0, 0), (0, 10), (0, 8), (0, 38), (0, 1)], [], [], [])])
theorem mt_325 (l : Launch) (cy : Nat → ClassId) (ad wr cr : Nat → Nat) (D : va_G) (hinj : nn_inj ad) : nn_H l cy ad wr cr D (351, 24, md_325) := sorry
/-- NameNotesModel.holds 93 -/
def md_326 : ab_CN := ([(2, 93, 0), (0, 1, 0), (0, 2, 0)], [(0, 0), (11, 11), (0, 8), (0, 38)], [(1, 3, 0)], [((95, 233), (3, 0))], [([(0, 4, 0)], [(0, 0), (11, 11), (0, 8), (0, 38), (0, 1)], [], [], [])])
theorem mt_326 (l : Launch) (cy : Nat → ClassId) (ad wr cr : Nat → Nat) (D : va_G) (hinj : nn_inj ad) : nn_H l cy ad wr cr D (351, 25, md_326) := sorry
/-- NameNotesModel.holds 93 -/
def md_327 : ab_CN := ([(2, 93, 0), (0, 1, 0), (0, 2, 0)], [(0, 0), (0, 11), (0, 8), (0, 38)], [(1, 3, 0)], [((95, 233), (3, 0))], [([(0, 4, 0)], [(0, 0), (0, 11), (0, 8), (0, 38), (0, 1)], [], [], [])])
theorem mt_327 (l : Launch) (cy : Nat → ClassId) (ad wr cr : Nat → Nat) (D : va_G) (hinj : nn_inj ad) : nn_H l cy ad wr cr D (351, 26, md_327) := sorry
/-- NameNotesModel.holds 93 -/
def md_328 : ab_CN := ([(2, 93, 0), (0, 1, 0), (0, 2, 0)], [(0, 0), (12, 12), (0, 8), (0, 38)], [(1, 3, 0)], [((95, 233), (3, 0))], [([(0, 4, 0)], [(0, 0), (12, 12), (0, 8), (0, 38), (0, 1)], [], [], [])])
theorem mt_328 (l : Launch) (cy : Nat → ClassId) (ad wr cr : Nat → Nat) (D : va_G) (hinj : nn_inj ad) : nn_H l cy ad wr cr D (351, 27, md_328) := sorry
/-- NameNotesModel.holds 93 -/
def md_329 : ab_CN := ([(2, 93, 0), (0, 1, 0), (0, 2, 0)], [(0, 0), (0, 12), (0, 8), (0, 38)], [(1, 3, 0)], [((95, 233), (3, 0))], [([(0, 4, 0)], [(0, 0), (0, 12), (0, 8), (0, 38), (0, 1)], [], [], [])])
theorem mt_329 (l : Launch) (cy : Nat → ClassId) (ad wr cr : Nat → Nat) (D : va_G) (hinj : nn_inj ad) : nn_H l cy ad wr cr D (351, 28, md_329) := sorry
/-- NameNotesModel.holds 93 -/
def md_330 : ab_CN := ([(2, 93, 0), (0, 1, 0), (0, 2, 0)], [(0, 0), (13, 13), (0, 8), (0, 38)], [(1, 3, 0)], [((95, 233), (3, 0))], [([(0, 4, 0)], [(0, 0), (13, 13), (0, 8), (0, 38), (0, 1)], [], [], [])])
theorem mt_330 (l : Launch) (cy : Nat → ClassId) (ad wr cr : Nat → Nat) (D : va_G) (hinj : nn_inj ad) : nn_H l cy ad wr cr D (351, 29, md_330) := sorry
/-- NameNotesModel.holds 93 -/
def md_331 : ab_CN := ([(2, 93, 0), (0, 1, 0), (0, 2, 0)], [(0, 0), (0, 13), (0, 8), (0, 38)], [(1, 3, 0)], [((95, 233), (3, 0))], [([(0, 4, 0)], [(0, 0), (0, 13), (0, 8), (0, 38), (0, 1)], [], [], [])])
theorem mt_331 (l : Launch) (cy : Nat → ClassId) (ad wr cr : Nat → Nat) (D : va_G) (hinj : nn_inj ad) : nn_H l cy ad wr cr D (351, 30, md_331) := sorry
/-- NameNotesModel.holds 93 -/
def md_332 : ab_CN := ([(2, 93, 0), (0, 1, 0), (0, 2, 0)], [(0, 0), (14, 14), (0, 8), (0, 38)], [(1, 3, 0)], [((95, 233), (3, 0))], [([(0, 4, 0)], [(0, 0), (14, 14), (0, 8), (0, 38), (0, 1)], [], [], [])])
theorem mt_332 (l : Launch) (cy : Nat → ClassId) (ad wr cr : Nat → Nat) (D : va_G) (hinj : nn_inj ad) : nn_H l cy ad wr cr D (351, 31, md_332) := sorry
/-- NameNotesModel.holds 93 -/
def md_333 : ab_CN := ([(2, 93, 0), (0, 1, 0), (0, 2, 0)], [(0, 0), (0, 14), (0, 8), (0, 38)], [(1, 3, 0)], [((95, 233), (3, 0))], [([(0, 4, 0)], [(0, 0), (0, 14), (0, 8), (0, 38), (0, 1)], [], [], [])])
theorem mt_333 (l : Launch) (cy : Nat → ClassId) (ad wr cr : Nat → Nat) (D : va_G) (hinj : nn_inj ad) : nn_H l cy ad wr cr D (351, 32, md_333) := sorry
/-- NameNotesModel.holds 93 -/
def md_334 : ab_CN := ([(2, 93, 0), (0, 1, 0), (0, 2, 0)], [(0, 0), (15, 15), (0, 8), (0, 38)], [(1, 3, 0)], [((95, 233), (3, 0))], [([(0, 4, 0)], [(0, 0), (15, 15), (0, 8), (0, 38), (0, 1)], [], [], [])])
theorem mt_334 (l : Launch) (cy : Nat → ClassId) (ad wr cr : Nat → Nat) (D : va_G) (hinj : nn_inj ad) : nn_H l cy ad wr cr D (351, 33, md_334) := sorry
/-- NameNotesModel.holds 93 -/
def md_335 : ab_CN := ([(2, 93, 0), (0, 1, 0), (0, 2, 0)], [(0, 0), (0, 15), (0, 8), (0, 38)], [(1, 3, 0)], [((95, 233), (3, 0))], [([(0, 4, 0)], [(0, 0), (0, 15), (0, 8), (0, 38), (0, 1)], [], [], [])])
theorem mt_335 (l : Launch) (cy : Nat → ClassId) (ad wr cr : Nat → Nat) (D : va_G) (hinj : nn_inj ad) : nn_H l cy ad wr cr D (351, 34, md_335) := sorry
/-- NameNotesModel.holds 93 -/
def md_336 : ab_CN := ([(2, 93, 0), (0, 1, 0), (0, 2, 0)], [(0, 0), (16, 16), (0, 8), (0, 38)], [(1, 3, 0)], [((95, 233), (3, 0))], [([(0, 4, 0)], [(0, 0), (16, 16), (0, 8), (0, 38), (0, 1)], [], [], [])])
theorem mt_336 (l : Launch) (cy : Nat → ClassId) (ad wr cr : Nat → Nat) (D : va_G) (hinj : nn_inj ad) : nn_H l cy ad wr cr D (351, 35, md_336) := sorry
/-- NameNotesModel.holds 93 -/
def md_337 : ab_CN := ([(2, 93, 0), (0, 1, 0), (0, 2, 0)], [(0, 0), (0, 16), (0, 8), (0, 38)], [(1, 3, 0)], [((95, 233), (3, 0))], [([(0, 4, 0)], [(0, 0), (0, 16), (0, 8), (0, 38), (0, 1)], [], [], [])])
theorem mt_337 (l : Launch) (cy : Nat → ClassId) (ad wr cr : Nat → Nat) (D : va_G) (hinj : nn_inj ad) : nn_H l cy ad wr cr D (351, 36, md_337) := sorry
/-- NameNotesModel.holds 93 -/
def md_338 : ab_CN := ([(2, 93, 0), (0, 1, 0), (0, 2, 0)], [(0, 0), (17, 17), (0, 8), (0, 38)], [(1, 3, 0)], [((95, 233), (3, 0))], [([(0, 4, 0)], [(0, 0), (17, 17), (0, 8), (0, 38), (0, 1)], [], [], [])])
theorem mt_338 (l : Launch) (cy : Nat → ClassId) (ad wr cr : Nat → Nat) (D : va_G) (hinj : nn_inj ad) : nn_H l cy ad wr cr D (351, 37, md_338) := sorry
/-- NameNotesModel.holds 93 -/
def md_339 : ab_CN := ([(2, 93, 0), (0, 1, 0), (0, 2, 0)], [(0, 0), (0, 17), (0, 8), (0, 38)], [(1, 3, 0)], [((95, 233), (3, 0))], [([(0, 4, 0)], [(0, 0), (0, 17), (0, 8), (0, 38), (0, 1)], [], [], [])])
theorem mt_339 (l : Launch) (cy : Nat → ClassId) (ad wr cr : Nat → Nat) (D : va_G) (hinj : nn_inj ad) : nn_H l cy ad wr cr D (351, 38, md_339) := sorry
/-- NameNotesModel.holds 93 -/
def md_340 : ab_CN := ([(2, 93, 0), (0, 1, 0), (0, 2, 0)], [(0, 0), (18, 18), (0, 8), (0, 38)], [(1, 3, 0)], [((95, 233), (3, 0))], [([(0, 4, 0)], [(0, 0), (18, 18), (0, 8), (0, 38), (0, 1)], [], [], [])])
theorem mt_340 (l : Launch) (cy : Nat → ClassId) (ad wr cr : Nat → Nat) (D : va_G) (hinj : nn_inj ad) : nn_H l cy ad wr cr D (351, 39, md_340) := sorry
/-- NameNotesModel.holds 93 -/
def md_341 : ab_CN := ([(2, 93, 0), (0, 1, 0), (0, 2, 0)], [(0, 0), (0, 18), (0, 8), (0, 38)], [(1, 3, 0)], [((95, 233), (3, 0))], [([(0, 4, 0)], [(0, 0), (0, 18), (0, 8), (0, 38), (0, 1)], [], [], [])])
theorem mt_341 (l : Launch) (cy : Nat → ClassId) (ad wr cr : Nat → Nat) (D : va_G) (hinj : nn_inj ad) : nn_H l cy ad wr cr D (351, 40, md_341) := sorry
/-- NameNotesModel.holds 93 -/
def md_342 : ab_CN := ([(2, 93, 0), (0, 1, 0), (0, 2, 0)], [(0, 0), (19, 19), (0, 8), (0, 38)], [(1, 3, 0)], [((95, 233), (3, 0))], [([(0, 4, 0)], [(0, 0), (19, 19), (0, 8), (0, 38), (0, 1)], [], [], [])])
theorem mt_342 (l : Launch) (cy : Nat → ClassId) (ad wr cr : Nat → Nat) (D : va_G) (hinj : nn_inj ad) : nn_H l cy ad wr cr D (351, 41, md_342) := sorry
/-- NameNotesModel.holds 93 -/
def md_343 : ab_CN := ([(2, 93, 0), (0, 1, 0), (0, 2, 0)], [(0, 0), (0, 19), (0, 8), (0, 38)], [(1, 3, 0)], [((95, 233), (3, 0))], [([(0, 4, 0)], [(0, 0), (0, 19), (0, 8), (0, 38), (0, 1)], [], [], [])])
theorem mt_343 (l : Launch) (cy : Nat → ClassId) (ad wr cr : Nat → Nat) (D : va_G) (hinj : nn_inj ad) : nn_H l cy ad wr cr D (351, 42, md_343) := sorry
/-- NameNotesModel.holds 93 -/
def md_344 : ab_CN := ([(2, 93, 0), (0, 1, 0), (0, 2, 0)], [(0, 0), (20, 20), (0, 8), (0, 38)], [(1, 3, 0)], [((95, 233), (3, 0))], [([(0, 4, 0)], [(0, 0), (20, 20), (0, 8), (0, 38), (0, 1)], [], [], [])])
theorem mt_344 (l : Launch) (cy : Nat → ClassId) (ad wr cr : Nat → Nat) (D : va_G) (hinj : nn_inj ad) : nn_H l cy ad wr cr D (351, 43, md_344) := sorry
/-- NameNotesModel.holds 93 -/
def md_345 : ab_CN := ([(2, 93, 0), (0, 1, 0), (0, 2, 0)], [(0, 0), (0, 20), (0, 8), (0, 38)], [(1, 3, 0)], [((95, 233), (3, 0))], [([(0, 4, 0)], [(0, 0), (0, 20), (0, 8), (0, 38), (0, 1)], [], [], [])])
theorem mt_345 (l : Launch) (cy : Nat → ClassId) (ad wr cr : Nat → Nat) (D : va_G) (hinj : nn_inj ad) : nn_H l cy ad wr cr D (351, 44, md_345) := sorry
/-- NameNotesModel.holds 93 -/
def md_346 : ab_CN := ([(2, 93, 0), (0, 1, 0), (0, 2, 0)], [(0, 0), (21, 21), (0, 8), (0, 38)], [(1, 3, 0)], [((95, 233), (3, 0))], [([(0, 4, 0)], [(0, 0), (21, 21), (0, 8), (0, 38), (0, 1)], [], [], [])])
theorem mt_346 (l : Launch) (cy : Nat → ClassId) (ad wr cr : Nat → Nat) (D : va_G) (hinj : nn_inj ad) : nn_H l cy ad wr cr D (351, 45, md_346) := sorry
/-- NameNotesModel.holds 93 -/
def md_347 : ab_CN := ([(2, 93, 0), (0, 1, 0), (0, 2, 0)], [(0, 0), (0, 21), (0, 8), (0, 38)], [(1, 3, 0)], [((95, 233), (3, 0))], [([(0, 4, 0)], [(0, 0), (0, 21), (0, 8), (0, 38), (0, 1)], [], [], [])])
theorem mt_347 (l : Launch) (cy : Nat → ClassId) (ad wr cr : Nat → Nat) (D : va_G) (hinj : nn_inj ad) : nn_H l cy ad wr cr D (351, 46, md_347) := sorry
/-- NameNotesModel.holds 93 -/
def md_348 : ab_CN := ([(2, 93, 0), (0, 1, 0), (0, 2, 0)], [(0, 0), (22, 22), (0, 8), (0, 38)], [(1, 3, 0)], [((95, 233), (3, 0))], [([(0, 4, 0)], [(0, 0), (22, 22), (0, 8), (0, 38), (0, 1)], [], [], [])])
theorem mt_348 (l : Launch) (cy : Nat → ClassId) (ad wr cr : Nat → Nat) (D : va_G) (hinj : nn_inj ad) : nn_H l cy ad wr cr D (351, 47, md_348) := sorry
/-- NameNotesModel.holds 93 -/
def md_349 : ab_CN := ([(2, 93, 0), (0, 1, 0), (0, 2, 0)], [(0, 0), (0, 22), (0, 8), (0, 38)], [(1, 3, 0)], [((95, 233), (3, 0))], [([(0, 4, 0)], [(0, 0), (0, 22), (0, 8), (0, 38), (0, 1)], [], [], [])])
theorem mt_349 (l : Launch) (cy : Nat → ClassId) (ad wr cr : Nat → Nat) (D : va_G) (hinj : nn_inj ad) : nn_H l cy ad wr cr D (351, 48, md_349) := sorry
/-- NameNotesModel.holds 93 -/
def md_350 : ab_CN := ([(2, 93, 0), (0, 1, 0), (0, 2, 0)], [(0, 0), (23, 23), (0, 8), (0, 38)], [(1, 3, 0)], [((95, 233), (3, 0))], [([(0, 4, 0)], [(0, 0), (23, 23), (0, 8), (0, 38), (0, 1)], [], [], [])])
theorem mt_350 (l : Launch) (cy : Nat → ClassId) (ad wr cr : Nat → Nat) (D : va_G) (hinj : nn_inj ad) : nn_H l cy ad wr cr D (351, 49, md_350) := sorry
/-- NameNotesModel.holds 93 -/
def md_351 : ab_CN := ([(2, 93, 0), (0, 1, 0), (0, 2, 0)], [(0, 0), (0, 23), (0, 8), (0, 38)], [(1, 3, 0)], [((95, 233), (3, 0))], [([(0, 4, 0)], [(0, 0), (0, 23), (0, 8), (0, 38), (0, 1)], [], [], [])])
theorem mt_351 (l : Launch) (cy : Nat → ClassId) (ad wr cr : Nat → Nat) (D : va_G) (hinj : nn_inj ad) : nn_H l cy ad wr cr D (351, 50, md_351) := sorry
/-- NameNotesModel.holds 93 -/
def md_352 : ab_CN := ([(2, 93, 0), (0, 1, 0), (0, 2, 0)], [(0, 0), (24, 24), (0, 8), (0, 38)], [(1, 3, 0)], [((95, 233), (3, 0))], [([(0, 4, 0)], [(0, 0), (24, 24), (0, 8), (0, 38), (0, 1)], [], [], [])])
theorem mt_352 (l : Launch) (cy : Nat → ClassId) (ad wr cr : Nat → Nat) (D : va_G) (hinj : nn_inj ad) : nn_H l cy ad wr cr D (351, 51, md_352) := sorry
/-- NameNotesModel.holds 93 -/
def md_353 : ab_CN := ([(2, 93, 0), (0, 1, 0), (0, 2, 0)], [(0, 0), (0, 24), (0, 8), (0, 38)], [(1, 3, 0)], [((95, 233), (3, 0))], [([(0, 4, 0)], [(0, 0), (0, 24), (0, 8), (0, 38), (0, 1)], [], [], [])])
theorem mt_353 (l : Launch) (cy : Nat → ClassId) (ad wr cr : Nat → Nat) (D : va_G) (hinj : nn_inj ad) : nn_H l cy ad wr cr D (351, 52, md_353) := sorry
/-- NameNotesModel.holds 93 -/
def md_354 : ab_CN := ([(2, 93, 0), (0, 1, 0), (0, 2, 0)], [(0, 0), (25, 25), (0, 8), (0, 38)], [(1, 3, 0)], [((95, 233), (3, 0))], [([(0, 4, 0)], [(0, 0), (25, 25), (0, 8), (0, 38), (0, 1)], [], [], [])])
theorem mt_354 (l : Launch) (cy : Nat → ClassId) (ad wr cr : Nat → Nat) (D : va_G) (hinj : nn_inj ad) : nn_H l cy ad wr cr D (351, 53, md_354) := sorry
/-- NameNotesModel.holds 93 -/
def md_355 : ab_CN := ([(2, 93, 0), (0, 1, 0), (0, 2, 0)], [(0, 0), (0, 25), (0, 8), (0, 38)], [(1, 3, 0)], [((95, 233), (3, 0))], [([(0, 4, 0)], [(0, 0), (0, 25), (0, 8), (0, 38), (0, 1)], [], [], [])])
theorem mt_355 (l : Launch) (cy : Nat → ClassId) (ad wr cr : Nat → Nat) (D : va_G) (hinj : nn_inj ad) : nn_H l cy ad wr cr D (351, 54, md_355) := sorry
/-- NameNotesModel.holds 93 -/
def md_356 : ab_CN := ([(2, 93, 0), (0, 1, 0), (0, 2, 0)], [(0, 0), (26, 26), (0, 8), (0, 38)], [(1, 3, 0)], [((95, 233), (3, 0))], [([(0, 4, 0)], [(0, 0), (26, 26), (0, 8), (0, 38), (0, 1)], [], [], [])])
theorem mt_356 (l : Launch) (cy : Nat → ClassId) (ad wr cr : Nat → Nat) (D : va_G) (hinj : nn_inj ad) : nn_H l cy ad wr cr D (351, 55, md_356) := sorry
/-- NameNotesModel.holds 93 -/
def md_357 : ab_CN := ([(2, 93, 0), (0, 1, 0), (0, 2, 0)], [(0, 0), (0, 26), (0, 8), (0, 38)], [(1, 3, 0)], [((95, 233), (3, 0))], [([(0, 4, 0)], [(0, 0), (0, 26), (0, 8), (0, 38), (0, 1)], [], [], [])])
theorem mt_357 (l : Launch) (cy : Nat → ClassId) (ad wr cr : Nat → Nat) (D : va_G) (hinj : nn_inj ad) : nn_H l cy ad wr cr D (351, 56, md_357) := sorry
