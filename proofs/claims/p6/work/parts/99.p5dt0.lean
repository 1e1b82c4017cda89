/-! the law's code decoded -/
def nq_dt_law_0 : ab_DT := [[(0, .new 8, 3, 9), (3, .dup, 1, 0), (4, .invokespecial 42, 3, 9), (7, .astore_n 1, 1, 0), (8, .new 43, 3, 9), (11, .dup, 1, 0), (12, .invokespecial 45, 3, 9), (15, .astore_n 2, 1, 0)],
  [(16, .iconst 1, 1, 0), (17, .newarray .long, 2, 9), (19, .astore_n 3, 1, 0), (20, .iconst 0, 1, 0), (21, .istore 4, 2, 0), (23, .iload 4, 2, 0), (25, .aload_n 0, 1, 0), (26, .arraylength, 1, 1), (27, .bipush 7, 2, 0), (29, .isub, 1, 0), (30, .if_icmp .gt 2739, 3, 2)],
  [(33, .aload_n 0, 1, 0), (34, .iload 4, 2, 0), (36, .iaload, 1, 1), (37, .bipush 63, 2, 0), (39, .iand, 1, 0), (40, .tableswitch 2723 0 57 #[248, 321, 346, 359, 372, 421, 458, 495, 520, 557, 582, 643, 692, 741, 817, 881, 930, 991, 1067, 1128, 1204, 1253, 1343, 1407, 1456, 1493, 1530, 1579, 1616, 1653, 1714, 1763, 1800, 1813, 1877, 1938, 2014, 2075, 2112, 2173, 2222, 2259, 2296, 2333, 2346, 2359, 2372, 2397, 2425, 2474, 2499, 2560, 2585, 2610, 2623, 2648, 2673, 2698], 248, 2)],
  []]
theorem nq_dt_law_0_ok : ab_dtok cL_law nq_dt_law_0 = true := by decide +kernel
def nq_dt_law_4 : ab_DT := [[],
  [],
  [],
  []]
theorem nq_dt_law_4_ok : ab_dtok cL_law nq_dt_law_4 = true := by decide +kernel
def nq_dt_law_8 : ab_DT := [[],
  [],
  [],
  []]
theorem nq_dt_law_8_ok : ab_dtok cL_law nq_dt_law_8 = true := by decide +kernel
def nq_dt_law_12 : ab_DT := [[],
  [],
  [],
  []]
theorem nq_dt_law_12_ok : ab_dtok cL_law nq_dt_law_12 = true := by decide +kernel
def nq_dt_law_16 : ab_DT := [[],
  [],
  [(288, .aload_n 1, 1, 0), (289, .aload_n 0, 1, 0), (290, .iload 4, 2, 0), (292, .iconst 1, 1, 0), (293, .iadd, 1, 0), (294, .iaload, 1, 1), (295, .aload_n 0, 1, 0), (296, .iload 4, 2, 0), (298, .iconst 2, 1, 0), (299, .iadd, 1, 0), (300, .iaload, 1, 1), (301, .aload_n 0, 1, 0), (302, .iload 4, 2, 0)],
  [(304, .iconst 3, 1, 0), (305, .iadd, 1, 0), (306, .iaload, 1, 1), (307, .aload_n 0, 1, 0), (308, .iload 4, 2, 0), (310, .iconst 4, 1, 0), (311, .iadd, 1, 0), (312, .iaload, 1, 1), (313, .aload_n 0, 1, 0), (314, .iload 4, 2, 0), (316, .iconst 5, 1, 0), (317, .iadd, 1, 0), (318, .iaload, 1, 1), (319, .invokevirtual 46, 3, 3)]]
theorem nq_dt_law_16_ok : ab_dtok cL_law nq_dt_law_16 = true := by decide +kernel
def nq_dt_law_20 : ab_DT := [[(322, .pop, 1, 0), (323, .aload_n 2, 1, 0), (324, .aload_n 0, 1, 0), (325, .iload 4, 2, 0), (327, .iconst 1, 1, 0), (328, .iadd, 1, 0), (329, .iaload, 1, 1), (330, .aload_n 0, 1, 0), (331, .iload 4, 2, 0), (333, .iconst 2, 1, 0), (334, .iadd, 1, 0), (335, .iaload, 1, 1)],
  [(336, .aload_n 0, 1, 0), (337, .iload 4, 2, 0), (339, .iconst 3, 1, 0), (340, .iadd, 1, 0), (341, .iaload, 1, 1), (342, .aload_n 0, 1, 0), (343, .iload 4, 2, 0), (345, .iconst 4, 1, 0), (346, .iadd, 1, 0), (347, .iaload, 1, 1), (348, .aload_n 0, 1, 0), (349, .iload 4, 2, 0), (351, .iconst 5, 1, 0)],
  [(352, .iadd, 1, 0), (353, .iaload, 1, 1), (354, .invokevirtual 50, 3, 3), (357, .pop, 1, 0), (358, .goto 2405, 3, 2), (361, .aload_n 1, 1, 0), (362, .aload_n 0, 1, 0), (363, .iload 4, 2, 0), (365, .iconst 1, 1, 0), (366, .iadd, 1, 0), (367, .iaload, 1, 1)],
  [(368, .invokevirtual 51, 3, 3), (371, .pop, 1, 0), (372, .aload_n 2, 1, 0), (373, .aload_n 0, 1, 0), (374, .iload 4, 2, 0), (376, .iconst 1, 1, 0), (377, .iadd, 1, 0), (378, .iaload, 1, 1), (379, .invokevirtual 55, 3, 3), (382, .pop, 1, 0), (383, .goto 2380, 3, 2)]]
theorem nq_dt_law_20_ok : ab_dtok cL_law nq_dt_law_20 = true := by decide +kernel
def nq_dt_law_24 : ab_DT := [[(386, .aload_n 1, 1, 0), (387, .invokevirtual 56, 3, 3), (390, .pop, 1, 0), (391, .aload_n 2, 1, 0), (392, .invokevirtual 60, 3, 3), (395, .pop, 1, 0), (396, .goto 2367, 3, 2), (399, .aload_n 1, 1, 0)],
  [(400, .invokevirtual 61, 3, 3), (403, .pop, 1, 0), (404, .aload_n 2, 1, 0), (405, .invokevirtual 64, 3, 3), (408, .pop, 1, 0), (409, .goto 2354, 3, 2), (412, .aload_n 1, 1, 0), (413, .aload_n 0, 1, 0), (414, .iload 4, 2, 0)],
  [(416, .iconst 1, 1, 0), (417, .iadd, 1, 0), (418, .iaload, 1, 1), (419, .aload_n 0, 1, 0), (420, .iload 4, 2, 0), (422, .iconst 2, 1, 0), (423, .iadd, 1, 0), (424, .iaload, 1, 1), (425, .aload_n 0, 1, 0), (426, .iload 4, 2, 0), (428, .iconst 3, 1, 0), (429, .iadd, 1, 0), (430, .iaload, 1, 1), (431, .invokevirtual 65, 3, 3)],
  [(434, .aload_n 2, 1, 0), (435, .aload_n 0, 1, 0), (436, .iload 4, 2, 0), (438, .iconst 1, 1, 0), (439, .iadd, 1, 0), (440, .iaload, 1, 1), (441, .aload_n 0, 1, 0), (442, .iload 4, 2, 0), (444, .iconst 2, 1, 0), (445, .iadd, 1, 0), (446, .iaload, 1, 1), (447, .aload_n 0, 1, 0)]]
theorem nq_dt_law_24_ok : ab_dtok cL_law nq_dt_law_24 = true := by decide +kernel
def nq_dt_law_28 : ab_DT := [[(448, .iload 4, 2, 0), (450, .iconst 3, 1, 0), (451, .iadd, 1, 0), (452, .iaload, 1, 1), (453, .invokevirtual 69, 3, 3), (456, .if_icmp .eq 2307, 3, 2), (459, .iconst 0, 1, 0), (460, .ireturn, 1, 6), (461, .aload_n 1, 1, 0), (462, .aload_n 0, 1, 0), (463, .iload 4, 2, 0)],
  [(465, .iconst 1, 1, 0), (466, .iadd, 1, 0), (467, .iaload, 1, 1), (468, .aload_n 0, 1, 0), (469, .iload 4, 2, 0), (471, .iconst 2, 1, 0), (472, .iadd, 1, 0), (473, .iaload, 1, 1), (474, .invokevirtual 70, 3, 3), (477, .pop, 1, 0), (478, .aload_n 2, 1, 0), (479, .aload_n 0, 1, 0)],
  [(480, .iload 4, 2, 0), (482, .iconst 1, 1, 0), (483, .iadd, 1, 0), (484, .iaload, 1, 1), (485, .aload_n 0, 1, 0), (486, .iload 4, 2, 0), (488, .iconst 2, 1, 0), (489, .iadd, 1, 0), (490, .iaload, 1, 1), (491, .invokevirtual 74, 3, 3), (494, .pop, 1, 0), (495, .goto 2268, 3, 2)],
  [(498, .aload_n 1, 1, 0), (499, .aload_n 0, 1, 0), (500, .iload 4, 2, 0), (502, .iconst 1, 1, 0), (503, .iadd, 1, 0), (504, .iaload, 1, 1), (505, .aload_n 0, 1, 0), (506, .iload 4, 2, 0), (508, .iconst 2, 1, 0), (509, .iadd, 1, 0), (510, .iaload, 1, 1), (511, .invokevirtual 75, 3, 3)]]
theorem nq_dt_law_28_ok : ab_dtok cL_law nq_dt_law_28 = true := by decide +kernel
def nq_dt_law_32 : ab_DT := [[(514, .pop, 1, 0), (515, .aload_n 2, 1, 0), (516, .aload_n 0, 1, 0), (517, .iload 4, 2, 0), (519, .iconst 1, 1, 0), (520, .iadd, 1, 0), (521, .iaload, 1, 1), (522, .aload_n 0, 1, 0), (523, .iload 4, 2, 0), (525, .iconst 2, 1, 0), (526, .iadd, 1, 0), (527, .iaload, 1, 1)],
  [(528, .invokevirtual 78, 3, 3), (531, .pop, 1, 0), (532, .goto 2231, 3, 2), (535, .aload_n 1, 1, 0), (536, .aload_n 0, 1, 0), (537, .iload 4, 2, 0), (539, .iconst 1, 1, 0), (540, .iadd, 1, 0), (541, .iaload, 1, 1), (542, .invokevirtual 79, 3, 3)],
  [(545, .pop, 1, 0), (546, .aload_n 2, 1, 0), (547, .aload_n 0, 1, 0), (548, .iload 4, 2, 0), (550, .iconst 1, 1, 0), (551, .iadd, 1, 0), (552, .iaload, 1, 1), (553, .invokevirtual 83, 3, 3), (556, .pop, 1, 0), (557, .goto 2206, 3, 2)],
  [(560, .aload_n 1, 1, 0), (561, .aload_n 0, 1, 0), (562, .iload 4, 2, 0), (564, .iconst 1, 1, 0), (565, .iadd, 1, 0), (566, .iaload, 1, 1), (567, .aload_n 0, 1, 0), (568, .iload 4, 2, 0), (570, .iconst 2, 1, 0), (571, .iadd, 1, 0), (572, .iaload, 1, 1), (573, .invokevirtual 84, 3, 3)]]
theorem nq_dt_law_32_ok : ab_dtok cL_law nq_dt_law_32 = true := by decide +kernel
def nq_dt_law_36 : ab_DT := [[(576, .pop, 1, 0), (577, .aload_n 2, 1, 0), (578, .aload_n 0, 1, 0), (579, .iload 4, 2, 0), (581, .iconst 1, 1, 0), (582, .iadd, 1, 0), (583, .iaload, 1, 1), (584, .aload_n 0, 1, 0), (585, .iload 4, 2, 0), (587, .iconst 2, 1, 0), (588, .iadd, 1, 0), (589, .iaload, 1, 1), (590, .invokevirtual 87, 3, 3)],
  [(593, .pop, 1, 0), (594, .goto 2169, 3, 2), (597, .aload_n 1, 1, 0), (598, .aload_n 0, 1, 0), (599, .iload 4, 2, 0), (601, .iconst 1, 1, 0), (602, .iadd, 1, 0), (603, .iaload, 1, 1), (604, .invokevirtual 88, 3, 3), (607, .pop, 1, 0)],
  [(608, .aload_n 2, 1, 0), (609, .aload_n 0, 1, 0), (610, .iload 4, 2, 0), (612, .iconst 1, 1, 0), (613, .iadd, 1, 0), (614, .iaload, 1, 1), (615, .invokevirtual 91, 3, 3), (618, .pop, 1, 0), (619, .goto 2144, 3, 2), (622, .aload_n 1, 1, 0), (623, .aload_n 0, 1, 0)],
  [(624, .iload 4, 2, 0), (626, .iconst 1, 1, 0), (627, .iadd, 1, 0), (628, .iaload, 1, 1), (629, .aload_n 0, 1, 0), (630, .iload 4, 2, 0), (632, .iconst 2, 1, 0), (633, .iadd, 1, 0), (634, .iaload, 1, 1), (635, .aload_n 0, 1, 0), (636, .iload 4, 2, 0), (638, .iconst 3, 1, 0), (639, .iadd, 1, 0)]]
theorem nq_dt_law_36_ok : ab_dtok cL_law nq_dt_law_36 = true := by decide +kernel
def nq_dt_law_40 : ab_DT := [[(640, .iaload, 1, 1), (641, .aload_n 0, 1, 0), (642, .iload 4, 2, 0), (644, .iconst 4, 1, 0), (645, .iadd, 1, 0), (646, .iaload, 1, 1), (647, .invokevirtual 92, 3, 3), (650, .pop, 1, 0), (651, .aload_n 2, 1, 0), (652, .aload_n 0, 1, 0), (653, .iload 4, 2, 0), (655, .iconst 1, 1, 0)],
  [(656, .iadd, 1, 0), (657, .iaload, 1, 1), (658, .aload_n 0, 1, 0), (659, .iload 4, 2, 0), (661, .iconst 2, 1, 0), (662, .iadd, 1, 0), (663, .iaload, 1, 1), (664, .aload_n 0, 1, 0), (665, .iload 4, 2, 0), (667, .iconst 3, 1, 0), (668, .iadd, 1, 0), (669, .iaload, 1, 1), (670, .aload_n 0, 1, 0), (671, .iload 4, 2, 0)],
  [(673, .iconst 4, 1, 0), (674, .iadd, 1, 0), (675, .iaload, 1, 1), (676, .invokevirtual 96, 3, 3), (679, .pop, 1, 0), (680, .goto 2083, 3, 2), (683, .aload_n 1, 1, 0), (684, .aload_n 0, 1, 0), (685, .iload 4, 2, 0), (687, .iconst 1, 1, 0)],
  [(688, .iadd, 1, 0), (689, .iaload, 1, 1), (690, .aload_n 0, 1, 0), (691, .iload 4, 2, 0), (693, .iconst 2, 1, 0), (694, .iadd, 1, 0), (695, .iaload, 1, 1), (696, .aload_n 0, 1, 0), (697, .iload 4, 2, 0), (699, .iconst 3, 1, 0), (700, .iadd, 1, 0), (701, .iaload, 1, 1), (702, .invokevirtual 97, 3, 3)]]
theorem nq_dt_law_40_ok : ab_dtok cL_law nq_dt_law_40 = true := by decide +kernel
def nq_dt_law_44 : ab_DT := [[(705, .pop, 1, 0), (706, .aload_n 2, 1, 0), (707, .aload_n 0, 1, 0), (708, .iload 4, 2, 0), (710, .iconst 1, 1, 0), (711, .iadd, 1, 0), (712, .iaload, 1, 1), (713, .aload_n 0, 1, 0), (714, .iload 4, 2, 0), (716, .iconst 2, 1, 0), (717, .iadd, 1, 0), (718, .iaload, 1, 1), (719, .aload_n 0, 1, 0)],
  [(720, .iload 4, 2, 0), (722, .iconst 3, 1, 0), (723, .iadd, 1, 0), (724, .iaload, 1, 1), (725, .invokevirtual 100, 3, 3), (728, .pop, 1, 0), (729, .goto 2034, 3, 2), (732, .aload_n 1, 1, 0), (733, .aload_n 0, 1, 0), (734, .iload 4, 2, 0)],
  [(736, .iconst 1, 1, 0), (737, .iadd, 1, 0), (738, .iaload, 1, 1), (739, .aload_n 0, 1, 0), (740, .iload 4, 2, 0), (742, .iconst 2, 1, 0), (743, .iadd, 1, 0), (744, .iaload, 1, 1), (745, .aload_n 0, 1, 0), (746, .iload 4, 2, 0), (748, .iconst 3, 1, 0), (749, .iadd, 1, 0), (750, .iaload, 1, 1), (751, .invokevirtual 101, 3, 3)],
  [(754, .pop, 1, 0), (755, .aload_n 2, 1, 0), (756, .aload_n 0, 1, 0), (757, .iload 4, 2, 0), (759, .iconst 1, 1, 0), (760, .iadd, 1, 0), (761, .iaload, 1, 1), (762, .aload_n 0, 1, 0), (763, .iload 4, 2, 0), (765, .iconst 2, 1, 0), (766, .iadd, 1, 0), (767, .iaload, 1, 1)]]
theorem nq_dt_law_44_ok : ab_dtok cL_law nq_dt_law_44 = true := by decide +kernel
def nq_dt_law_48 : ab_DT := [[(768, .aload_n 0, 1, 0), (769, .iload 4, 2, 0), (771, .iconst 3, 1, 0), (772, .iadd, 1, 0), (773, .iaload, 1, 1), (774, .invokevirtual 104, 3, 3), (777, .pop, 1, 0), (778, .goto 1985, 3, 2), (781, .aload_n 1, 1, 0), (782, .aload_n 0, 1, 0), (783, .iload 4, 2, 0)],
  [(785, .iconst 1, 1, 0), (786, .iadd, 1, 0), (787, .iaload, 1, 1), (788, .aload_n 0, 1, 0), (789, .iload 4, 2, 0), (791, .iconst 2, 1, 0), (792, .iadd, 1, 0), (793, .iaload, 1, 1), (794, .aload_n 0, 1, 0), (795, .iload 4, 2, 0), (797, .iconst 3, 1, 0), (798, .iadd, 1, 0), (799, .iaload, 1, 1)],
  [(800, .aload_n 0, 1, 0), (801, .iload 4, 2, 0), (803, .iconst 4, 1, 0), (804, .iadd, 1, 0), (805, .iaload, 1, 1), (806, .aload_n 0, 1, 0), (807, .iload 4, 2, 0), (809, .iconst 5, 1, 0), (810, .iadd, 1, 0), (811, .iaload, 1, 1), (812, .aload_n 3, 1, 0), (813, .invokestatic 105, 3, 3)],
  [(816, .istore 5, 2, 0), (818, .aload_n 2, 1, 0), (819, .aload_n 0, 1, 0), (820, .iload 4, 2, 0), (822, .iconst 1, 1, 0), (823, .iadd, 1, 0), (824, .iaload, 1, 1), (825, .aload_n 0, 1, 0), (826, .iload 4, 2, 0), (828, .iconst 2, 1, 0), (829, .iadd, 1, 0), (830, .iaload, 1, 1), (831, .aload_n 0, 1, 0)]]
theorem nq_dt_law_48_ok : ab_dtok cL_law nq_dt_law_48 = true := by decide +kernel
