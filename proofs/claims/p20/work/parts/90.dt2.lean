def nn_dt80 : ab_DT := [[(0, .aload_n 0, 1, 0), (1, .getfield 19, 3, 1), (4, .iload_n 1, 1, 0), (5, .invokevirtual 173, 3, 3), (8, .ifCond .eq 21, 3, 2), (11, .iload_n 2, 1, 0), (12, .invokestatic 232, 3, 3), (15, .ifCond .eq 14, 3, 2)],
  [(18, .aload_n 0, 1, 0), (19, .getfield 19, 3, 1), (22, .iload_n 3, 1, 0), (23, .invokevirtual 166, 3, 3), (26, .ifCond .ne 5, 3, 2), (29, .iconst (-1), 1, 0), (30, .ireturn, 1, 6), (31, .iconst 1, 1, 0)],
  [(32, .istore 4, 2, 0), (34, .iload 4, 2, 0), (36, .bipush 9, 2, 0), (38, .if_icmp .gt 34, 3, 2), (41, .aload_n 0, 1, 0), (42, .iload_n 1, 1, 0), (43, .iload 4, 2, 0), (45, .aload_n 0, 1, 0), (46, .getfield 19, 3, 1)],
  [(49, .iload_n 3, 1, 0), (50, .invokevirtual 169, 3, 3), (53, .invokevirtual 228, 3, 3), (56, .iload_n 2, 1, 0), (57, .invokestatic 235, 3, 3), (60, .ifCond .eq 6, 3, 2), (63, .iload 4, 2, 0)],
  [(65, .ireturn, 1, 6), (66, .iinc 4 1, 3, 0), (69, .goto (-35), 3, 2), (72, .iconst (-1), 1, 0), (73, .ireturn, 1, 6)]]
theorem nn_d80 : ab_dtok prog_1_method_17_code nn_dt80 = true := dw_ok (by decide +kernel)
def nn_dt81 : ab_DT := [[(0, .iload_n 0, 1, 0), (1, .ifCond .lt 13, 3, 2), (4, .iload_n 0, 1, 0), (5, .bipush 9, 2, 0), (7, .if_icmp .gt 7, 3, 2), (10, .iconst 1, 1, 0), (11, .goto 4, 3, 2), (14, .iconst 0, 1, 0), (15, .ireturn, 1, 6)]]
theorem nn_d81 : ab_dtok prog_1_method_75_code nn_dt81 = true := dw_ok (by decide +kernel)
def nn_dt82 : ab_DT := [[(0, .aload_n 0, 1, 0), (1, .getfield 55, 3, 1), (4, .aload_n 0, 1, 0), (5, .getfield 19, 3, 1), (8, .iload_n 2, 1, 0), (9, .iload_n 3, 1, 0), (10, .invokevirtual 320, 3, 3), (13, .aload_n 0, 1, 0), (14, .getfield 55, 3, 1)],
  [(17, .aload_n 0, 1, 0), (18, .getfield 19, 3, 1), (21, .iload_n 1, 1, 0), (22, .iconst 0, 1, 0), (23, .invokevirtual 329, 3, 3), (26, .aload_n 0, 1, 0), (27, .getfield 55, 3, 1), (30, .invokevirtual 332, 3, 3)],
  [(33, .lreturn, 1, 6)]]
theorem nn_d82 : ab_dtok prog_1_method_65_code nn_dt82 = true := dw_ok (by decide +kernel)
def nn_dt83 : ab_DT := [[(0, .aload_n 0, 1, 0), (1, .iload_n 3, 1, 0), (2, .putfield 22, 3, 1), (5, .iconst 0, 1, 0), (6, .istore 4, 2, 0), (8, .iload 4, 2, 0), (10, .aload_n 0, 1, 0), (11, .getfield 15, 3, 1), (14, .arraylength, 1, 1), (15, .if_icmp .ge 38, 3, 2)],
  [(18, .aload_n 0, 1, 0), (19, .getfield 15, 3, 1), (22, .iload 4, 2, 0), (24, .iload_n 3, 1, 0), (25, .iload 4, 2, 0), (27, .invokestatic 26, 3, 3), (30, .ifCond .eq 15, 3, 2)],
  [(33, .aload_n 1, 1, 0), (34, .iload 4, 2, 0), (36, .iload_n 2, 1, 0), (37, .iconst 0, 1, 0), (38, .iload_n 3, 1, 0), (39, .invokevirtual 30, 3, 3), (42, .goto 4, 3, 2), (45, .iconst 0, 1, 0), (46, .iastore, 1, 1), (47, .iinc 4 1, 3, 0)],
  [(50, .goto (-42), 3, 2), (53, .return_, 1, 6)]]
theorem nn_d83 : ab_dtok prog_3_method_2_code nn_dt83 = true := dw_ok (by decide +kernel)
def nn_dt84 : ab_DT := [[(0, .iconst 0, 1, 0), (1, .istore 4, 2, 0), (3, .iload 4, 2, 0), (5, .aload_n 0, 1, 0), (6, .getfield 9, 3, 1), (9, .arraylength, 1, 1), (10, .if_icmp .ge 37, 3, 2), (13, .aload_n 0, 1, 0), (14, .getfield 9, 3, 1)],
  [(17, .iload 4, 2, 0), (19, .iload_n 3, 1, 0), (20, .iload 4, 2, 0), (22, .invokestatic 26, 3, 3), (25, .ifCond .eq 8, 3, 2), (28, .bipush 9, 2, 0), (30, .goto 10, 3, 2)],
  [(33, .aload_n 1, 1, 0), (34, .iload_n 2, 1, 0), (35, .iload 4, 2, 0), (37, .invokevirtual 36, 3, 3), (40, .iastore, 1, 1), (41, .iinc 4 1, 3, 0), (44, .goto (-41), 3, 2), (47, .return_, 1, 6)]]
theorem nn_d84 : ab_dtok prog_3_method_3_code nn_dt84 = true := dw_ok (by decide +kernel)
def nn_dt85 : ab_DT := [[(0, .lconst 0, 1, 0), (1, .lstore_n 1, 1, 0), (2, .iconst 0, 1, 0), (3, .istore_n 3, 1, 0), (4, .iload_n 3, 1, 0), (5, .aload_n 0, 1, 0), (6, .getfield 15, 3, 1), (9, .arraylength, 1, 1), (10, .if_icmp .ge 46, 3, 2), (13, .aload_n 0, 1, 0), (14, .getfield 22, 3, 1)],
  [(17, .iload_n 3, 1, 0), (18, .invokestatic 26, 3, 3), (21, .ifCond .eq 29, 3, 2), (24, .aload_n 0, 1, 0), (25, .getfield 15, 3, 1), (28, .iload_n 3, 1, 0), (29, .iaload, 1, 1), (30, .iload_n 3, 1, 0), (31, .invokestatic 57, 3, 3)],
  [(34, .ifCond .eq 16, 3, 2), (37, .lload_n 1, 1, 0), (38, .aload_n 0, 1, 0), (39, .aload_n 0, 1, 0), (40, .getfield 15, 3, 1), (43, .iload_n 3, 1, 0), (44, .iaload, 1, 1), (45, .invokevirtual 60, 3, 3)],
  [(48, .ladd, 1, 0), (49, .lstore_n 1, 1, 0), (50, .iinc 3 1, 3, 0), (53, .goto (-49), 3, 2), (56, .lload_n 1, 1, 0), (57, .getstatic 48, 3, 4), (60, .aload_n 0, 1, 0), (61, .getfield 22, 3, 1)],
  [(64, .invokestatic 64, 3, 3), (67, .iconst 1, 1, 0), (68, .isub, 1, 0), (69, .invokestatic 40, 3, 3), (72, .i2l, 1, 0), (73, .lmul, 1, 0), (74, .lreturn, 1, 6)]]
theorem nn_d85 : ab_dtok prog_3_method_6_code nn_dt85 = true := dw_ok (by decide +kernel)
def nn_dt86 : ab_DT := [[(0, .lconst 1, 1, 0), (1, .lstore_n 2, 1, 0), (2, .iconst 0, 1, 0), (3, .istore 4, 2, 0), (5, .iconst 0, 1, 0), (6, .istore 5, 2, 0), (8, .iload 5, 2, 0), (10, .aload_n 0, 1, 0), (11, .getfield 9, 3, 1), (14, .arraylength, 1, 1), (15, .if_icmp .ge 35, 3, 2)],
  [(18, .iload_n 1, 1, 0), (19, .iload 5, 2, 0), (21, .invokestatic 26, 3, 3), (24, .ifCond .eq 20, 3, 2), (27, .lload_n 2, 1, 0), (28, .bipush 9, 2, 0), (30, .aload_n 0, 1, 0), (31, .getfield 9, 3, 1)],
  [(34, .iload 5, 2, 0), (36, .iaload, 1, 1), (37, .isub, 1, 0), (38, .i2l, 1, 0), (39, .lmul, 1, 0), (40, .lstore_n 2, 1, 0), (41, .iinc 4 1, 3, 0), (44, .iinc 5 1, 3, 0), (47, .goto (-39), 3, 2)],
  [(50, .getstatic 51, 3, 4), (53, .iload 4, 2, 0), (55, .invokestatic 54, 3, 3), (58, .lload_n 2, 1, 0), (59, .lsub, 1, 0), (60, .getstatic 51, 3, 4), (63, .bipush 9, 2, 0)],
  [(65, .iload 4, 2, 0), (67, .isub, 1, 0), (68, .invokestatic 54, 3, 3), (71, .lmul, 1, 0), (72, .lreturn, 1, 6)]]
theorem nn_d86 : ab_dtok prog_3_method_7_code nn_dt86 = true := dw_ok (by decide +kernel)
def nn_dt87 : ab_DT := [[(0, .aload_n 0, 1, 0), (1, .ifnull 19, 3, 2), (4, .iload_n 1, 1, 0), (5, .ifCond .lt 15, 3, 2), (8, .iload_n 1, 1, 0), (9, .aload_n 0, 1, 0), (10, .arraylength, 1, 1), (11, .if_icmp .ge 9, 3, 2), (14, .aload_n 0, 1, 0), (15, .iload_n 1, 1, 0)],
  [(16, .laload, 1, 1), (17, .goto 4, 3, 2), (20, .lconst 0, 1, 0), (21, .lreturn, 1, 6)]]
theorem nn_d87 : ab_dtok prog_1_method_85_code nn_dt87 = true := dw_ok (by decide +kernel)
def nn_dt88 : ab_DT := [[(0, .iload_n 0, 1, 0), (1, .iload_n 0, 1, 0), (2, .iconst 1, 1, 0), (3, .iushr, 1, 0), (4, .ldc_w 265, 3, 0), (7, .iand, 1, 0), (8, .isub, 1, 0), (9, .istore_n 0, 1, 0), (10, .iload_n 0, 1, 0), (11, .ldc_w 266, 3, 0), (14, .iand, 1, 0), (15, .iload_n 0, 1, 0)],
  [(16, .iconst 2, 1, 0), (17, .iushr, 1, 0), (18, .ldc_w 266, 3, 0), (21, .iand, 1, 0), (22, .iadd, 1, 0), (23, .istore_n 0, 1, 0), (24, .iload_n 0, 1, 0), (25, .iload_n 0, 1, 0), (26, .iconst 4, 1, 0), (27, .iushr, 1, 0), (28, .iadd, 1, 0), (29, .ldc_w 267, 3, 0)],
  [(32, .iand, 1, 0), (33, .istore_n 0, 1, 0), (34, .iload_n 0, 1, 0), (35, .iload_n 0, 1, 0), (36, .bipush 8, 2, 0), (38, .iushr, 1, 0), (39, .iadd, 1, 0), (40, .istore_n 0, 1, 0), (41, .iload_n 0, 1, 0), (42, .iload_n 0, 1, 0), (43, .bipush 16, 2, 0), (45, .iushr, 1, 0), (46, .iadd, 1, 0), (47, .istore_n 0, 1, 0)],
  [(48, .iload_n 0, 1, 0), (49, .bipush 63, 2, 0), (51, .iand, 1, 0), (52, .ireturn, 1, 6)]]
theorem nn_d88 : ab_dtok prog_20_method_49_code nn_dt88 = true := dw_ok (by decide +kernel)
def nn_dt89 : ab_DT := [[(0, .lload_n 0, 1, 0), (1, .ldc2_w 484, 3, 0), (4, .lmul, 1, 0), (5, .iload_n 2, 1, 0), (6, .i2l, 1, 0), (7, .ldc2_w 222, 3, 0), (10, .lmul, 1, 0), (11, .lcmp, 1, 2), (12, .ifCond .lt 7, 3, 2), (15, .iconst 1, 1, 0)],
  [(16, .goto 4, 3, 2), (19, .iconst 0, 1, 0), (20, .ireturn, 1, 6)]]
theorem nn_d89 : ab_dtok prog_1_method_78_code nn_dt89 = true := dw_ok (by decide +kernel)
def nn_dt90 : ab_DT := [[(0, .aload_n 0, 1, 0), (1, .iload_n 1, 1, 0), (2, .iload_n 2, 1, 0), (3, .iload_n 3, 1, 0), (4, .iload 4, 2, 0), (6, .invokevirtual 239, 3, 3), (9, .ifCond .ne 5, 3, 2), (12, .iconst (-1), 1, 0), (13, .ireturn, 1, 6), (14, .aload_n 0, 1, 0), (15, .iload_n 1, 1, 0)],
  [(16, .iload_n 2, 1, 0), (17, .iload 4, 2, 0), (19, .invokevirtual 242, 3, 3), (22, .aload_n 0, 1, 0), (23, .getfield 62, 3, 1), (26, .iconst 0, 1, 0), (27, .iload_n 3, 1, 0), (28, .invokevirtual 246, 3, 3), (31, .ireturn, 1, 6)]]
theorem nn_d90 : ab_dtok prog_1_method_18_code nn_dt90 = true := dw_ok (by decide +kernel)
def nn_dt91 : ab_DT := [[(0, .aload_n 0, 1, 0), (1, .getfield 19, 3, 1), (4, .iload_n 1, 1, 0), (5, .invokevirtual 173, 3, 3), (8, .ifCond .eq 46, 3, 2), (11, .aload_n 0, 1, 0), (12, .getfield 19, 3, 1), (15, .iload_n 2, 1, 0)],
  [(16, .invokevirtual 173, 3, 3), (19, .ifCond .eq 35, 3, 2), (22, .iload_n 1, 1, 0), (23, .iload_n 2, 1, 0), (24, .if_icmp .eq 30, 3, 2), (27, .iload_n 3, 1, 0), (28, .ifCond .eq 10, 3, 2), (31, .iload_n 3, 1, 0)],
  [(32, .invokestatic 184, 3, 3), (35, .ifCond .eq 19, 3, 2), (38, .aload_n 0, 1, 0), (39, .getfield 19, 3, 1), (42, .iload 4, 2, 0), (44, .invokevirtual 166, 3, 3), (47, .ifCond .eq 7, 3, 2)],
  [(50, .iconst 1, 1, 0), (51, .goto 4, 3, 2), (54, .iconst 0, 1, 0), (55, .ireturn, 1, 6)]]
theorem nn_d91 : ab_dtok prog_1_method_62_code nn_dt91 = true := dw_ok (by decide +kernel)
def nn_dt92 : ab_DT := [[(0, .aload_n 0, 1, 0), (1, .getfield 62, 3, 1), (4, .aload_n 0, 1, 0), (5, .getfield 19, 3, 1), (8, .aload_n 0, 1, 0), (9, .getfield 55, 3, 1), (12, .iload_n 1, 1, 0), (13, .iload_n 2, 1, 0), (14, .aload_n 0, 1, 0), (15, .getfield 19, 3, 1)],
  [(18, .iload_n 3, 1, 0), (19, .invokevirtual 169, 3, 3), (22, .invokevirtual 463, 3, 3), (25, .aload_n 0, 1, 0), (26, .getfield 62, 3, 1), (29, .aload_n 0, 1, 0), (30, .getfield 19, 3, 1)],
  [(33, .getfield 456, 3, 1), (36, .invokevirtual 467, 3, 3), (39, .return_, 1, 6)]]
theorem nn_d92 : ab_dtok prog_1_method_66_code nn_dt92 = true := dw_ok (by decide +kernel)
def nn_dt93 : ab_DT := [[(0, .iconst 1, 1, 0), (1, .istore 6, 2, 0), (3, .iload 6, 2, 0), (5, .bipush 9, 2, 0), (7, .if_icmp .gt 62, 3, 2), (10, .aload_n 2, 1, 0), (11, .aload_n 1, 1, 0), (12, .iload 6, 2, 0), (14, .iload 5, 2, 0)],
  [(16, .invokevirtual 22, 3, 3), (19, .aload_n 2, 1, 0), (20, .aload_n 1, 1, 0), (21, .iload_n 3, 1, 0), (22, .iconst 0, 1, 0), (23, .invokevirtual 28, 3, 3), (26, .aload_n 0, 1, 0), (27, .getfield 11, 3, 1), (30, .iload 6, 2, 0)],
  [(32, .aload_n 2, 1, 0), (33, .invokevirtual 31, 3, 3), (36, .invokestatic 35, 3, 3), (39, .aload_n 2, 1, 0), (40, .aload_n 1, 1, 0), (41, .iload 4, 2, 0), (43, .iconst 0, 1, 0), (44, .invokevirtual 28, 3, 3), (47, .aload_n 0, 1, 0)],
  [(48, .getfield 11, 3, 1), (51, .bipush 10, 2, 0), (53, .iload 6, 2, 0), (55, .iadd, 1, 0), (56, .aload_n 2, 1, 0), (57, .invokevirtual 31, 3, 3), (60, .invokestatic 35, 3, 3), (63, .iinc 6 1, 3, 0)],
  [(66, .goto (-63), 3, 2), (69, .return_, 1, 6)]]
theorem nn_d93 : ab_dtok prog_2_method_2_code nn_dt93 = true := dw_ok (by decide +kernel)
def nn_dt94 : ab_DT := [[(0, .iconst 1, 1, 0), (1, .istore_n 2, 1, 0), (2, .iload_n 2, 1, 0), (3, .bipush 9, 2, 0), (5, .if_icmp .gt 27, 3, 2), (8, .aload_n 0, 1, 0), (9, .iconst 0, 1, 0), (10, .iload_n 2, 1, 0), (11, .iload_n 2, 1, 0), (12, .iconst 1, 1, 0), (13, .isub, 1, 0), (14, .invokevirtual 39, 3, 3)],
  [(17, .aload_n 0, 1, 0), (18, .iconst 1, 1, 0), (19, .iload_n 2, 1, 0), (20, .iload_n 2, 1, 0), (21, .iconst 1, 1, 0), (22, .isub, 1, 0), (23, .invokevirtual 39, 3, 3), (26, .iinc 2 1, 3, 0), (29, .goto (-27), 3, 2)],
  [(32, .aload_n 0, 1, 0), (33, .iconst 0, 1, 0), (34, .iconst 0, 1, 0), (35, .iload_n 1, 1, 0), (36, .invokevirtual 39, 3, 3), (39, .aload_n 0, 1, 0), (40, .iconst 1, 1, 0), (41, .iconst 0, 1, 0), (42, .iload_n 1, 1, 0), (43, .invokevirtual 39, 3, 3), (46, .return_, 1, 6)]]
theorem nn_d94 : ab_dtok prog_2_method_3_code nn_dt94 = true := dw_ok (by decide +kernel)
def nn_dt95 : ab_DT := [[(0, .iconst 1, 1, 0), (1, .iload_n 1, 1, 0), (2, .isub, 1, 0), (3, .bipush 10, 2, 0), (5, .imul, 1, 0), (6, .istore 4, 2, 0), (8, .iload_n 2, 1, 0), (9, .ifCond .le 21, 3, 2), (12, .ldc2_w 43, 3, 0), (15, .aload_n 0, 1, 0)],
  [(16, .getfield 11, 3, 1), (19, .iload 4, 2, 0), (21, .iload_n 2, 1, 0), (22, .iadd, 1, 0), (23, .invokestatic 45, 3, 3), (26, .lsub, 1, 0), (27, .goto 6, 3, 2), (30, .ldc2_w 49, 3, 0)],
  [(33, .lstore 5, 2, 0), (35, .iconst 0, 1, 0), (36, .istore 7, 2, 0), (38, .iload_n 3, 1, 0), (39, .istore 8, 2, 0), (41, .iload 8, 2, 0), (43, .ifCond .le 43, 3, 2), (46, .ldc2_w 43, 3, 0)],
  [(49, .aload_n 0, 1, 0), (50, .getfield 15, 3, 1), (53, .iload 4, 2, 0), (55, .iload 8, 2, 0), (57, .iadd, 1, 0), (58, .invokestatic 45, 3, 3), (61, .lsub, 1, 0), (62, .lstore 9, 2, 0)],
  [(64, .lload 9, 2, 0), (66, .lload 5, 2, 0), (68, .lcmp, 1, 2), (69, .ifCond .le 11, 3, 2), (72, .lload 9, 2, 0), (74, .lstore 5, 2, 0), (76, .iload 8, 2, 0), (78, .istore 7, 2, 0)],
  [(80, .iinc 8 (-1), 3, 0), (83, .goto (-42), 3, 2), (86, .aload_n 0, 1, 0), (87, .getfield 15, 3, 1), (90, .iload_n 1, 1, 0), (91, .bipush 10, 2, 0), (93, .imul, 1, 0), (94, .iload_n 2, 1, 0), (95, .iadd, 1, 0)],
  [(96, .lload 5, 2, 0), (98, .invokestatic 35, 3, 3), (101, .aload_n 0, 1, 0), (102, .getfield 18, 3, 1), (105, .iload_n 1, 1, 0), (106, .bipush 10, 2, 0), (108, .imul, 1, 0), (109, .iload_n 2, 1, 0), (110, .iadd, 1, 0), (111, .iload 7, 2, 0)],
  [(113, .invokestatic 51, 3, 3), (116, .return_, 1, 6)]]
theorem nn_d95 : ab_dtok prog_2_method_4_code nn_dt95 = true := dw_ok (by decide +kernel)
def nn_dt96 : ab_DT := [[(0, .aload_n 0, 1, 0), (1, .getfield 18, 3, 1), (4, .iload_n 1, 1, 0), (5, .bipush 10, 2, 0), (7, .imul, 1, 0), (8, .iload_n 2, 1, 0), (9, .iadd, 1, 0), (10, .invokestatic 61, 3, 3), (13, .ireturn, 1, 6)]]
theorem nn_d96 : ab_dtok prog_2_method_8_code nn_dt96 = true := dw_ok (by decide +kernel)
def nn_dt97 : ab_DT := [[(0, .aload_n 0, 1, 0), (1, .iload_n 1, 1, 0), (2, .iload_n 2, 1, 0), (3, .iload_n 3, 1, 0), (4, .iload 4, 2, 0), (6, .invokevirtual 239, 3, 3), (9, .ifCond .ne 5, 3, 2), (12, .iconst (-1), 1, 0), (13, .ireturn, 1, 6), (14, .aload_n 0, 1, 0), (15, .iload_n 1, 1, 0)],
  [(16, .iload_n 2, 1, 0), (17, .iload 4, 2, 0), (19, .invokevirtual 253, 3, 3), (22, .aload_n 0, 1, 0), (23, .getfield 62, 3, 1), (26, .iconst 0, 1, 0), (27, .iload_n 3, 1, 0), (28, .invokevirtual 246, 3, 3), (31, .ireturn, 1, 6)]]
theorem nn_d97 : ab_dtok prog_1_method_20_code nn_dt97 = true := dw_ok (by decide +kernel)
def nn_dt98 : ab_DT := [[(0, .aload_n 0, 1, 0), (1, .getfield 62, 3, 1), (4, .aload_n 0, 1, 0), (5, .getfield 19, 3, 1), (8, .aload_n 0, 1, 0), (9, .getfield 55, 3, 1), (12, .iload_n 1, 1, 0), (13, .iload_n 2, 1, 0), (14, .aload_n 0, 1, 0), (15, .getfield 19, 3, 1)],
  [(18, .iload_n 3, 1, 0), (19, .invokevirtual 169, 3, 3), (22, .invokevirtual 463, 3, 3), (25, .aload_n 0, 1, 0), (26, .getfield 62, 3, 1), (29, .aload_n 0, 1, 0), (30, .getfield 19, 3, 1)],
  [(33, .getfield 456, 3, 1), (36, .aload_n 0, 1, 0), (37, .getfield 19, 3, 1), (40, .getfield 179, 3, 1), (43, .iload_n 2, 1, 0), (44, .invokestatic 180, 3, 3), (47, .invokevirtual 470, 3, 3)],
  [(50, .return_, 1, 6)]]
theorem nn_d98 : ab_dtok prog_1_method_67_code nn_dt98 = true := dw_ok (by decide +kernel)
def nn_dt99 : ab_DT := [[(0, .iconst 1, 1, 0), (1, .istore_n 3, 1, 0), (2, .iload_n 3, 1, 0), (3, .bipush 9, 2, 0), (5, .if_icmp .gt 18, 3, 2), (8, .aload_n 0, 1, 0), (9, .iload_n 3, 1, 0), (10, .iload_n 3, 1, 0), (11, .iconst 1, 1, 0), (12, .isub, 1, 0), (13, .iload_n 2, 1, 0), (14, .invokevirtual 54, 3, 3)],
  [(17, .iinc 3 1, 3, 0), (20, .goto (-18), 3, 2), (23, .aload_n 0, 1, 0), (24, .iconst 0, 1, 0), (25, .iload_n 1, 1, 0), (26, .iload_n 2, 1, 0), (27, .invokevirtual 54, 3, 3), (30, .return_, 1, 6)]]
theorem nn_d99 : ab_dtok prog_2_method_5_code nn_dt99 = true := dw_ok (by decide +kernel)
def nn_dt100 : ab_DT := [[(0, .iload_n 1, 1, 0), (1, .ifCond .le 21, 3, 2), (4, .ldc2_w 43, 3, 0), (7, .aload_n 0, 1, 0), (8, .getfield 11, 3, 1), (11, .bipush 10, 2, 0), (13, .iload_n 1, 1, 0), (14, .iadd, 1, 0), (15, .invokestatic 45, 3, 3)],
  [(18, .lsub, 1, 0), (19, .goto 6, 3, 2), (22, .ldc2_w 49, 3, 0), (25, .lstore 4, 2, 0), (27, .iconst 0, 1, 0), (28, .istore 6, 2, 0), (30, .iload_n 2, 1, 0), (31, .istore 7, 2, 0)],
  [(33, .iload 7, 2, 0), (35, .ifCond .le 89, 3, 2), (38, .iload 7, 2, 0), (40, .iconst 1, 1, 0), (41, .if_icmp .le 28, 3, 2), (44, .aload_n 0, 1, 0), (45, .getfield 11, 3, 1)],
  [(48, .bipush 10, 2, 0), (50, .iload 7, 2, 0), (52, .iadd, 1, 0), (53, .iconst 1, 1, 0), (54, .isub, 1, 0), (55, .invokestatic 45, 3, 3), (58, .iload_n 3, 1, 0), (59, .invokestatic 57, 3, 3), (62, .ifCond .eq 7, 3, 2)],
  [(65, .iconst 1, 1, 0), (66, .goto 4, 3, 2), (69, .iconst 0, 1, 0), (70, .istore 8, 2, 0), (72, .iload 8, 2, 0), (74, .ifCond .eq 17, 3, 2), (77, .aload_n 0, 1, 0), (78, .getfield 15, 3, 1)],
  [(81, .iload 7, 2, 0), (83, .iconst 1, 1, 0), (84, .isub, 1, 0), (85, .invokestatic 45, 3, 3), (88, .goto 12, 3, 2), (91, .aload_n 0, 1, 0), (92, .getfield 11, 3, 1), (95, .iload 7, 2, 0)],
  [(97, .invokestatic 45, 3, 3), (100, .lstore 9, 2, 0), (102, .lload 9, 2, 0), (104, .lload 4, 2, 0), (106, .lcmp, 1, 2), (107, .ifCond .le 11, 3, 2), (110, .lload 9, 2, 0)],
  [(112, .lstore 4, 2, 0), (114, .iload 7, 2, 0), (116, .istore 6, 2, 0), (118, .iinc 7 (-1), 3, 0), (121, .goto (-88), 3, 2), (124, .aload_n 0, 1, 0), (125, .getfield 15, 3, 1)],
  [(128, .iload_n 1, 1, 0), (129, .lload 4, 2, 0), (131, .invokestatic 35, 3, 3), (134, .aload_n 0, 1, 0), (135, .getfield 18, 3, 1), (138, .iload_n 1, 1, 0), (139, .iload 6, 2, 0), (141, .invokestatic 51, 3, 3)],
  [(144, .return_, 1, 6)]]
theorem nn_d100 : ab_dtok prog_2_method_6_code nn_dt100 = true := dw_ok (by decide +kernel)
def nn_dt101 : ab_DT := [[(0, .aload_n 0, 1, 0), (1, .iload_n 1, 1, 0), (2, .iload_n 2, 1, 0), (3, .iconst 0, 1, 0), (4, .iload_n 3, 1, 0), (5, .invokevirtual 239, 3, 3), (8, .ifCond .ne 5, 3, 2), (11, .iconst (-1), 1, 0), (12, .ireturn, 1, 6), (13, .aload_n 0, 1, 0), (14, .iload_n 1, 1, 0), (15, .iload_n 2, 1, 0)],
  [(16, .iload_n 3, 1, 0), (17, .invokevirtual 242, 3, 3), (20, .ldc2_w 256, 3, 0), (23, .aload_n 0, 1, 0), (24, .getfield 62, 3, 1), (27, .iconst 0, 1, 0), (28, .iconst 0, 1, 0), (29, .invokevirtual 249, 3, 3)],
  [(32, .lmul, 1, 0), (33, .lstore 4, 2, 0), (35, .ldc2_w 256, 3, 0), (38, .ldc2_w 222, 3, 0), (41, .aload_n 0, 1, 0), (42, .getfield 62, 3, 1), (45, .iconst 1, 1, 0), (46, .iconst 0, 1, 0), (47, .invokevirtual 249, 3, 3)],
  [(50, .lsub, 1, 0), (51, .lmul, 1, 0), (52, .lstore 6, 2, 0), (54, .lload 4, 2, 0), (56, .ldc2_w 222, 3, 0), (59, .lcmp, 1, 2), (60, .ifCond .le 14, 3, 2), (63, .lload 6, 2, 0)],
  [(65, .ldc2_w 222, 3, 0), (68, .lcmp, 1, 2), (69, .ifCond .le 5, 3, 2), (72, .iconst 1, 1, 0), (73, .ireturn, 1, 6), (74, .lload 4, 2, 0), (76, .ldc2_w 222, 3, 0), (79, .lcmp, 1, 2)],
  [(80, .ifCond .ge 16, 3, 2), (83, .lload 6, 2, 0), (85, .ldc2_w 222, 3, 0), (88, .lcmp, 1, 2), (89, .ifCond .ge 7, 3, 2), (92, .iconst (-1), 1, 0), (93, .goto 4, 3, 2)],
  [(96, .iconst 0, 1, 0), (97, .ireturn, 1, 6)]]
theorem nn_d101 : ab_dtok prog_1_method_22_code nn_dt101 = true := dw_ok (by decide +kernel)
def nn_dt102 : ab_DT := [[(0, .aload_n 0, 1, 0), (1, .getfield 15, 3, 1), (4, .iload_n 1, 1, 0), (5, .bipush 10, 2, 0), (7, .imul, 1, 0), (8, .iload_n 2, 1, 0), (9, .iadd, 1, 0), (10, .invokestatic 45, 3, 3), (13, .lreturn, 1, 6)]]
theorem nn_d102 : ab_dtok prog_2_method_7_code nn_dt102 = true := dw_ok (by decide +kernel)
def nn_dt103 : ab_DT := [[(0, .aload_n 0, 1, 0), (1, .iload_n 1, 1, 0), (2, .iload_n 2, 1, 0), (3, .iconst 0, 1, 0), (4, .iload_n 3, 1, 0), (5, .invokevirtual 239, 3, 3), (8, .ifCond .ne 5, 3, 2), (11, .iconst (-1), 1, 0), (12, .ireturn, 1, 6), (13, .aload_n 0, 1, 0), (14, .iload_n 1, 1, 0), (15, .iload_n 2, 1, 0)],
  [(16, .iload_n 3, 1, 0), (17, .invokevirtual 242, 3, 3), (20, .aload_n 0, 1, 0), (21, .getfield 62, 3, 1), (24, .invokevirtual 266, 3, 3), (27, .ireturn, 1, 6)]]
theorem nn_d103 : ab_dtok prog_1_method_25_code nn_dt103 = true := dw_ok (by decide +kernel)
def nn_dt104 : ab_DT := [[(0, .iconst 0, 1, 0), (1, .istore_n 1, 1, 0), (2, .iconst 0, 1, 0), (3, .istore_n 2, 1, 0), (4, .aload_n 0, 1, 0), (5, .iconst 0, 1, 0), (6, .iconst 0, 1, 0), (7, .invokevirtual 64, 3, 3), (10, .istore_n 3, 1, 0), (11, .iconst 0, 1, 0), (12, .istore 4, 2, 0), (14, .iload 4, 2, 0)],
  [(16, .bipush 9, 2, 0), (18, .if_icmp .ge 26, 3, 2), (21, .iload_n 3, 1, 0), (22, .ifCond .le 22, 3, 2), (25, .iload_n 3, 1, 0), (26, .istore_n 2, 1, 0), (27, .iconst 1, 1, 0), (28, .iload_n 1, 1, 0), (29, .isub, 1, 0), (30, .istore_n 1, 1, 0), (31, .aload_n 0, 1, 0)],
  [(32, .iload_n 1, 1, 0), (33, .iload_n 3, 1, 0), (34, .invokevirtual 64, 3, 3), (37, .istore_n 3, 1, 0), (38, .iinc 4 1, 3, 0), (41, .goto (-27), 3, 2), (44, .iload_n 2, 1, 0), (45, .ireturn, 1, 6)]]
theorem nn_d104 : ab_dtok prog_2_method_9_code nn_dt104 = true := dw_ok (by decide +kernel)
def nn_dt105 : ab_DT := [[(0, .iconst (-1), 1, 0), (1, .istore_n 3, 1, 0), (2, .iconst 0, 1, 0), (3, .istore 4, 2, 0), (5, .iconst 0, 1, 0), (6, .istore 5, 2, 0), (8, .iload 5, 2, 0), (10, .aload_n 0, 1, 0), (11, .getfield 19, 3, 1), (14, .getfield 269, 3, 1)],
  [(17, .if_icmp .ge 44, 3, 2), (20, .aload_n 0, 1, 0), (21, .iload_n 1, 1, 0), (22, .iload_n 2, 1, 0), (23, .iload 5, 2, 0), (25, .invokevirtual 272, 3, 3), (28, .istore 6, 2, 0), (30, .iload 6, 2, 0)],
  [(32, .iconst (-1), 1, 0), (33, .if_icmp .eq 22, 3, 2), (36, .iload_n 3, 1, 0), (37, .iconst (-1), 1, 0), (38, .if_icmp .eq 10, 3, 2), (41, .iload 6, 2, 0), (43, .iload 4, 2, 0), (45, .if_icmp .ge 10, 3, 2)],
  [(48, .iload 5, 2, 0), (50, .istore_n 3, 1, 0), (51, .iload 6, 2, 0), (53, .istore 4, 2, 0), (55, .iinc 5 1, 3, 0), (58, .goto (-50), 3, 2), (61, .iload_n 3, 1, 0), (62, .ireturn, 1, 6)]]
theorem nn_d105 : ab_dtok prog_1_method_26_code nn_dt105 = true := dw_ok (by decide +kernel)
def nn_dt106 : ab_DT := [[(0, .iconst (-1), 1, 0), (1, .istore_n 3, 1, 0), (2, .lconst 0, 1, 0), (3, .lstore 4, 2, 0), (5, .iconst 0, 1, 0), (6, .istore 6, 2, 0), (8, .iload 6, 2, 0), (10, .aload_n 0, 1, 0), (11, .getfield 19, 3, 1), (14, .getfield 269, 3, 1)],
  [(17, .if_icmp .ge 71, 3, 2), (20, .aload_n 0, 1, 0), (21, .iload_n 1, 1, 0), (22, .iload_n 2, 1, 0), (23, .iconst 0, 1, 0), (24, .iload 6, 2, 0), (26, .invokevirtual 239, 3, 3), (29, .ifCond .eq 53, 3, 2)],
  [(32, .aload_n 0, 1, 0), (33, .iload_n 1, 1, 0), (34, .iload_n 2, 1, 0), (35, .iload 6, 2, 0), (37, .invokevirtual 242, 3, 3), (40, .ldc2_w 256, 3, 0), (43, .aload_n 0, 1, 0), (44, .getfield 62, 3, 1), (47, .iconst 0, 1, 0)],
  [(48, .iconst 0, 1, 0), (49, .invokevirtual 249, 3, 3), (52, .lmul, 1, 0), (53, .ldc2_w 222, 3, 0), (56, .lsub, 1, 0), (57, .invokestatic 275, 3, 3), (60, .lstore 7, 2, 0), (62, .iload_n 3, 1, 0), (63, .iconst (-1), 1, 0)],
  [(64, .if_icmp .eq 11, 3, 2), (67, .lload 7, 2, 0), (69, .lload 4, 2, 0), (71, .lcmp, 1, 2), (72, .ifCond .ge 10, 3, 2), (75, .iload 6, 2, 0), (77, .istore_n 3, 1, 0), (78, .lload 7, 2, 0)],
  [(80, .lstore 4, 2, 0), (82, .iinc 6 1, 3, 0), (85, .goto (-77), 3, 2), (88, .iload_n 3, 1, 0), (89, .ireturn, 1, 6)]]
theorem nn_d106 : ab_dtok prog_1_method_27_code nn_dt106 = true := dw_ok (by decide +kernel)
def nn_dt107 : ab_DT := [[(0, .lload_n 0, 1, 0), (1, .lconst 0, 1, 0), (2, .lcmp, 1, 2), (3, .ifCond .ge 8, 3, 2), (6, .lload_n 0, 1, 0), (7, .lneg, 1, 0), (8, .goto 4, 3, 2), (11, .lload_n 0, 1, 0), (12, .lreturn, 1, 6)]]
theorem nn_d107 : ab_dtok prog_21_method_61_code nn_dt107 = true := dw_ok (by decide +kernel)
def nn_dt108 : ab_DT := [[(0, .aload_n 0, 1, 0), (1, .iload_n 1, 1, 0), (2, .iload_n 2, 1, 0), (3, .iconst 0, 1, 0), (4, .iload_n 3, 1, 0), (5, .invokevirtual 239, 3, 3), (8, .ifCond .ne 5, 3, 2), (11, .iconst (-1), 1, 0), (12, .ireturn, 1, 6), (13, .aload_n 0, 1, 0), (14, .iload_n 1, 1, 0), (15, .iload_n 2, 1, 0)],
  [(16, .iload_n 3, 1, 0), (17, .invokevirtual 242, 3, 3), (20, .aload_n 0, 1, 0), (21, .getfield 83, 3, 1), (24, .invokevirtual 281, 3, 3), (27, .aload_n 0, 1, 0), (28, .getfield 83, 3, 1), (31, .ldc_w 284, 3, 5)],
  [(34, .invokevirtual 286, 3, 3), (37, .aload_n 0, 1, 0), (38, .getfield 83, 3, 1), (41, .aload_n 0, 1, 0), (42, .getfield 19, 3, 1), (45, .getfield 289, 3, 1)],
  [(48, .iload_n 3, 1, 0), (49, .invokestatic 293, 3, 3), (52, .invokevirtual 296, 3, 3), (55, .aload_n 0, 1, 0), (56, .getfield 83, 3, 1), (59, .bipush 59, 2, 0), (61, .invokevirtual 300, 3, 3)],
  [(64, .iconst 0, 1, 0), (65, .istore 4, 2, 0), (67, .aload_n 0, 1, 0), (68, .getfield 62, 3, 1), (71, .iconst 0, 1, 0), (72, .iconst 0, 1, 0), (73, .invokevirtual 246, 3, 3), (76, .istore 5, 2, 0), (78, .iconst 0, 1, 0), (79, .istore 6, 2, 0)],
  [(81, .iload 6, 2, 0), (83, .bipush 9, 2, 0), (85, .if_icmp .ge 65, 3, 2), (88, .iload 5, 2, 0), (90, .ifCond .le 60, 3, 2), (93, .aload_n 0, 1, 0), (94, .iload 4, 2, 0)],
  [(96, .ifCond .ne 7, 3, 2), (99, .iload_n 1, 1, 0), (100, .goto 4, 3, 2), (103, .iload_n 2, 1, 0), (104, .invokevirtual 303, 3, 3), (107, .aload_n 0, 1, 0), (108, .getfield 83, 3, 1), (111, .iload 5, 2, 0)],
  [(113, .invokevirtual 306, 3, 3), (116, .aload_n 0, 1, 0), (117, .getfield 83, 3, 1), (120, .bipush 59, 2, 0), (122, .invokevirtual 300, 3, 3), (125, .iconst 1, 1, 0), (126, .iload 4, 2, 0)],
  [(128, .isub, 1, 0), (129, .istore 4, 2, 0), (131, .aload_n 0, 1, 0), (132, .getfield 62, 3, 1), (135, .iload 4, 2, 0), (137, .iload 5, 2, 0), (139, .invokevirtual 246, 3, 3), (142, .istore 5, 2, 0)],
  [(144, .iinc 6 1, 3, 0), (147, .goto (-66), 3, 2), (150, .aload_n 0, 1, 0), (151, .iload 4, 2, 0), (153, .ifCond .ne 7, 3, 2), (156, .iload_n 1, 1, 0), (157, .goto 4, 3, 2)],
  [(160, .iload_n 2, 1, 0), (161, .invokevirtual 303, 3, 3), (164, .aload_n 0, 1, 0), (165, .getfield 83, 3, 1), (168, .ldc_w 309, 3, 5), (171, .invokevirtual 286, 3, 3), (174, .aload_n 0, 1, 0), (175, .getfield 83, 3, 1)],
  [(178, .getfield 311, 3, 1), (181, .ireturn, 1, 6)]]
theorem nn_d108 : ab_dtok prog_1_method_28_code nn_dt108 = true := dw_ok (by decide +kernel)
def nn_dt109 : ab_DT := [[(0, .aload_n 0, 1, 0), (1, .iconst 0, 1, 0), (2, .putfield 13, 3, 1), (5, .return_, 1, 6)]]
theorem nn_d109 : ab_dtok prog_11_method_2_code nn_dt109 = true := dw_ok (by decide +kernel)
def nn_dt110 : ab_DT := [[(0, .iconst 0, 1, 0), (1, .istore_n 2, 1, 0), (2, .iload_n 2, 1, 0), (3, .aload_n 1, 1, 0), (4, .invokevirtual 23, 3, 3), (7, .if_icmp .ge 18, 3, 2), (10, .aload_n 0, 1, 0), (11, .aload_n 1, 1, 0), (12, .iload_n 2, 1, 0), (13, .invokevirtual 29, 3, 3)],
  [(16, .invokevirtual 33, 3, 3), (19, .iinc 2 1, 3, 0), (22, .goto (-20), 3, 2), (25, .return_, 1, 6)]]
theorem nn_d110 : ab_dtok prog_11_method_4_code nn_dt110 = true := dw_ok (by decide +kernel)
def nn_dt111 : ab_DT := [[(0, .aload_n 0, 1, 0), (1, .getfield 9, 3, 1), (4, .arraylength, 1, 1), (5, .aload_n 0, 1, 0), (6, .invokevirtual 335, 3, 3), (9, .ishr, 1, 0), (10, .ireturn, 1, 6)]]
theorem nn_d111 : ab_dtok prog_23_method_54_code nn_dt111 = true := dw_ok (by decide +kernel)
def nn_dt112 : ab_DT := [[(0, .getstatic 38, 3, 4), (3, .ifCond .eq 10, 3, 2), (6, .aload_n 0, 1, 0), (7, .getfield 15, 3, 1), (10, .goto 4, 3, 2), (13, .iconst 1, 1, 0), (14, .ireturn, 1, 6)]]
theorem nn_d112 : ab_dtok prog_23_method_152_code nn_dt112 = true := dw_ok (by decide +kernel)
def nn_dt113 : ab_DT := [[(0, .aload_n 0, 1, 0), (1, .invokevirtual 492, 3, 3), (4, .ifCond .eq 12, 3, 2), (7, .aload_n 0, 1, 0), (8, .getfield 9, 3, 1), (11, .iload_n 1, 1, 0), (12, .invokestatic 495, 3, 3), (15, .ireturn, 1, 6)],
  [(16, .aload_n 0, 1, 0), (17, .getfield 9, 3, 1), (20, .iload_n 1, 1, 0), (21, .invokestatic 498, 3, 3), (24, .ireturn, 1, 6)]]
theorem nn_d113 : ab_dtok prog_23_method_56_code nn_dt113 = true := dw_ok (by decide +kernel)
def nn_dt114 : ab_DT := [[(0, .getstatic 38, 3, 4), (3, .ifCond .eq 14, 3, 2), (6, .aload_n 0, 1, 0), (7, .getfield 15, 3, 1), (10, .ifCond .ne 7, 3, 2), (13, .iconst 1, 1, 0), (14, .goto 4, 3, 2)],
  [(17, .iconst 0, 1, 0), (18, .ireturn, 1, 6)]]
theorem nn_d114 : ab_dtok prog_23_method_154_code nn_dt114 = true := dw_ok (by decide +kernel)
def nn_dt115 : ab_DT := [[(0, .iload_n 1, 1, 0), (1, .aload_n 0, 1, 0), (2, .arraylength, 1, 1), (3, .invokestatic 9, 3, 3), (6, .aload_n 0, 1, 0), (7, .iload_n 1, 1, 0), (8, .baload, 1, 1), (9, .sipush 255, 3, 0), (12, .iand, 1, 0), (13, .i2c, 1, 4), (14, .ireturn, 1, 6)]]
theorem nn_d115 : ab_dtok prog_24_method_2_code nn_dt115 = true := dw_ok (by decide +kernel)
def nn_dt116 : ab_DT := [[(0, .iload_n 0, 1, 0), (1, .iload_n 1, 1, 0), (2, .getstatic 1053, 3, 4), (5, .invokestatic 1059, 3, 3), (8, .pop, 1, 0), (9, .return_, 1, 6)]]
theorem nn_d116 : ab_dtok prog_23_method_155_code nn_dt116 = true := dw_ok (by decide +kernel)
def nn_dt117 : ab_DT := [[(0, .iload_n 0, 1, 0), (1, .ifCond .lt 8, 3, 2), (4, .iload_n 0, 1, 0), (5, .iload_n 1, 1, 0), (6, .if_icmp .lt 10, 3, 2), (9, .aload_n 2, 1, 0), (10, .iload_n 0, 1, 0), (11, .iload_n 1, 1, 0), (12, .invokestatic 95, 3, 3), (15, .athrow, 1, 9)],
  [(16, .iload_n 0, 1, 0), (17, .ireturn, 1, 6)]]
theorem nn_d117 : ab_dtok prog_30_method_11_code nn_dt117 = true := dw_ok (by decide +kernel)
def nn_dt118 : ab_DT := [[(0, .iload_n 1, 1, 0), (1, .aload_n 0, 1, 0), (2, .invokestatic 67, 3, 3), (5, .aload_n 0, 1, 0), (6, .iload_n 1, 1, 0), (7, .invokestatic 71, 3, 3), (10, .ireturn, 1, 6)]]
theorem nn_d118 : ab_dtok prog_25_method_83_code nn_dt118 = true := dw_ok (by decide +kernel)
def nn_dt119 : ab_DT := [[(0, .iload_n 0, 1, 0), (1, .aload_n 1, 1, 0), (2, .invokestatic 48, 3, 3), (5, .invokestatic 414, 3, 3), (8, .return_, 1, 6)]]
theorem nn_d119 : ab_dtok prog_25_method_91_code nn_dt119 = true := dw_ok (by decide +kernel)
def nn_DT_80 : List ab_DT := [nn_dt80, nn_dt81, nn_dt82, nn_dt83, nn_dt84, nn_dt85, nn_dt86, nn_dt87, nn_dt88, nn_dt89, nn_dt90, nn_dt91, nn_dt92, nn_dt93, nn_dt94, nn_dt95, nn_dt96, nn_dt97, nn_dt98, nn_dt99, nn_dt100, nn_dt101, nn_dt102, nn_dt103, nn_dt104, nn_dt105, nn_dt106, nn_dt107, nn_dt108, nn_dt109, nn_dt110, nn_dt111, nn_dt112, nn_dt113, nn_dt114, nn_dt115, nn_dt116, nn_dt117, nn_dt118, nn_dt119]
theorem nn_DT_80_ok : ab_dtP nn_MT_80 nn_DT_80 := ⟨nn_d80, nn_d81, nn_d82, nn_d83, nn_d84, nn_d85, nn_d86, nn_d87, nn_d88, nn_d89, nn_d90, nn_d91, nn_d92, nn_d93, nn_d94, nn_d95, nn_d96, nn_d97, nn_d98, nn_d99, nn_d100, nn_d101, nn_d102, nn_d103, nn_d104, nn_d105, nn_d106, nn_d107, nn_d108, nn_d109, nn_d110, nn_d111, nn_d112, nn_d113, nn_d114, nn_d115, nn_d116, nn_d117, nn_d118, nn_d119, trivial⟩
