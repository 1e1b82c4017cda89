def nn_dt280 : ab_DT := [[(0, .aload_n 0, 1, 0), (1, .iconst 0, 1, 0), (2, .putfield 100, 3, 1), (5, .iload 5, 2, 0), (7, .ifCond .ne 7, 3, 2), (10, .lload_n 1, 1, 0), (11, .goto 4, 3, 2), (14, .lload_n 3, 1, 0), (15, .lload_n 1, 1, 0)],
  [(16, .lload_n 3, 1, 0), (17, .invokestatic 110, 3, 3), (20, .ldiv, 1, 0), (21, .lreturn, 1, 6)]]
theorem nn_d280 : ab_dtok prog_14_method_13_code nn_dt280 = true := dw_ok (by decide +kernel)
def nn_dt281 : ab_DT := [[(0, .lload_n 0, 1, 0), (1, .lstore 4, 2, 0), (3, .lload_n 2, 1, 0), (4, .lstore 6, 2, 0), (6, .lload 6, 2, 0), (8, .lconst 0, 1, 0), (9, .lcmp, 1, 2), (10, .ifCond .le 21, 3, 2), (13, .lload 4, 2, 0), (15, .lload 6, 2, 0)],
  [(17, .lrem, 1, 0), (18, .lstore 8, 2, 0), (20, .lload 6, 2, 0), (22, .lstore 4, 2, 0), (24, .lload 8, 2, 0), (26, .lstore 6, 2, 0), (28, .goto (-22), 3, 2), (31, .lload 4, 2, 0)],
  [(33, .lreturn, 1, 6)]]
theorem nn_d281 : ab_dtok prog_14_method_12_code nn_dt281 = true := dw_ok (by decide +kernel)
def nn_dt282 : ab_DT := [[(0, .aload_n 0, 1, 0), (1, .iload_n 1, 1, 0), (2, .iload_n 2, 1, 0), (3, .iload_n 3, 1, 0), (4, .invokevirtual 342, 3, 3), (7, .ifCond .eq 13, 3, 2), (10, .iload 4, 2, 0), (12, .iconst 0, 1, 0), (13, .iconst 1, 1, 0), (14, .invokestatic 171, 3, 3)],
  [(17, .ifCond .ne 8, 3, 2), (20, .aload_n 0, 1, 0), (21, .invokevirtual 345, 3, 3), (24, .lreturn, 1, 6), (25, .aload_n 0, 1, 0), (26, .aload_n 0, 1, 0), (27, .iload_n 1, 1, 0), (28, .iload_n 2, 1, 0), (29, .aload_n 0, 1, 0), (30, .iload_n 3, 1, 0), (31, .invokevirtual 303, 3, 3)],
  [(34, .invokevirtual 355, 3, 3), (37, .ldc2_w 358, 3, 0), (40, .iload 4, 2, 0), (42, .invokevirtual 351, 3, 3), (45, .lreturn, 1, 6)]]
theorem nn_d282 : ab_dtok prog_14_method_82_code nn_dt282 = true := dw_ok (by decide +kernel)
def nn_dt283 : ab_DT := [[(0, .aload_n 0, 1, 0), (1, .iload_n 1, 1, 0), (2, .invokevirtual 335, 3, 3), (5, .aload_n 0, 1, 0), (6, .iload_n 2, 1, 0), (7, .iload_n 3, 1, 0), (8, .invokevirtual 338, 3, 3), (11, .lreturn, 1, 6)]]
theorem nn_d283 : ab_dtok prog_14_method_79_code nn_dt283 = true := dw_ok (by decide +kernel)
def nn_dt284 : ab_DT := [[(0, .lconst 0, 1, 0), (1, .lstore_n 3, 1, 0), (2, .iconst 0, 1, 0), (3, .istore 5, 2, 0), (5, .iload 5, 2, 0), (7, .aload_n 0, 1, 0), (8, .invokevirtual 261, 3, 3), (11, .if_icmp .ge 29, 3, 2), (14, .iload_n 2, 1, 0), (15, .iload 5, 2, 0)],
  [(17, .invokestatic 216, 3, 3), (20, .ifCond .eq 14, 3, 2), (23, .lload_n 3, 1, 0), (24, .aload_n 0, 1, 0), (25, .iload 5, 2, 0), (27, .iload_n 1, 1, 0), (28, .iload_n 2, 1, 0), (29, .invokevirtual 331, 3, 3)],
  [(32, .ladd, 1, 0), (33, .lstore_n 3, 1, 0), (34, .iinc 5 1, 3, 0), (37, .goto (-32), 3, 2), (40, .lload_n 3, 1, 0), (41, .ldc2_w 329, 3, 0), (44, .iload_n 2, 1, 0), (45, .invokestatic 322, 3, 3)],
  [(48, .i2l, 1, 0), (49, .ldiv, 1, 0), (50, .lmul, 1, 0), (51, .lreturn, 1, 6)]]
theorem nn_d284 : ab_dtok prog_14_method_78_code nn_dt284 = true := dw_ok (by decide +kernel)
def nn_dt285 : ab_DT := [[(0, .aload_n 0, 1, 0), (1, .iload_n 1, 1, 0), (2, .invokevirtual 281, 3, 3), (5, .ifCond .eq 36, 3, 2), (8, .iload_n 2, 1, 0), (9, .iconst 1, 1, 0), (10, .bipush 9, 2, 0), (12, .invokestatic 171, 3, 3), (15, .ifCond .eq 26, 3, 2)],
  [(18, .iload_n 3, 1, 0), (19, .ifCond .le 22, 3, 2), (22, .iload_n 3, 1, 0), (23, .aload_n 0, 1, 0), (24, .iconst (-1), 1, 0), (25, .invokevirtual 303, 3, 3), (28, .if_icmp .gt 13, 3, 2), (31, .iload 4, 2, 0)],
  [(33, .iconst 0, 1, 0), (34, .iconst 1, 1, 0), (35, .invokestatic 171, 3, 3), (38, .ifCond .ne 8, 3, 2), (41, .aload_n 0, 1, 0), (42, .invokevirtual 345, 3, 3), (45, .lreturn, 1, 6), (46, .aload_n 0, 1, 0), (47, .aload_n 0, 1, 0)],
  [(48, .iload_n 1, 1, 0), (49, .iload_n 2, 1, 0), (50, .iload_n 3, 1, 0), (51, .invokevirtual 355, 3, 3), (54, .ldc2_w 358, 3, 0), (57, .iload 4, 2, 0), (59, .invokevirtual 351, 3, 3), (62, .lreturn, 1, 6)]]
theorem nn_d285 : ab_dtok prog_14_method_83_code nn_dt285 = true := dw_ok (by decide +kernel)
def nn_dt286 : ab_DT := [[(0, .aload_n 0, 1, 0), (1, .iconst 0, 1, 0), (2, .putfield 100, 3, 1), (5, .aload_n 0, 1, 0), (6, .iload_n 1, 1, 0), (7, .invokevirtual 281, 3, 3), (10, .ifCond .eq 21, 3, 2), (13, .iload_n 2, 1, 0), (14, .iconst 0, 1, 0), (15, .bipush 9, 2, 0)],
  [(17, .invokestatic 171, 3, 3), (20, .ifCond .eq 11, 3, 2), (23, .aload_n 0, 1, 0), (24, .iload_n 3, 1, 0), (25, .invokevirtual 264, 3, 3), (28, .ifCond .ne 5, 3, 2), (31, .iconst (-1), 1, 0)],
  [(32, .ireturn, 1, 6), (33, .iconst 1, 1, 0), (34, .istore 4, 2, 0), (36, .iload 4, 2, 0), (38, .bipush 9, 2, 0), (40, .if_icmp .gt 31, 3, 2), (43, .aload_n 0, 1, 0), (44, .iload_n 1, 1, 0), (45, .iload 4, 2, 0), (47, .aload_n 0, 1, 0)],
  [(48, .iload_n 3, 1, 0), (49, .invokevirtual 303, 3, 3), (52, .invokevirtual 355, 3, 3), (55, .iload_n 2, 1, 0), (56, .invokestatic 362, 3, 3), (59, .ifCond .eq 6, 3, 2), (62, .iload 4, 2, 0)],
  [(64, .ireturn, 1, 6), (65, .iinc 4 1, 3, 0), (68, .goto (-32), 3, 2), (71, .iconst (-1), 1, 0), (72, .ireturn, 1, 6)]]
theorem nn_d286 : ab_dtok prog_14_method_85_code nn_dt286 = true := dw_ok (by decide +kernel)
def nn_dt287 : ab_DT := [[(0, .lload_n 0, 1, 0), (1, .ldc2_w 360, 3, 0), (4, .iload_n 2, 1, 0), (5, .i2l, 1, 0), (6, .lmul, 1, 0), (7, .lcmp, 1, 2), (8, .ifCond .lt 7, 3, 2), (11, .iconst 1, 1, 0), (12, .goto 4, 3, 2), (15, .iconst 0, 1, 0)],
  [(16, .ireturn, 1, 6)]]
theorem nn_d287 : ab_dtok prog_14_method_84_code nn_dt287 = true := dw_ok (by decide +kernel)
def nn_dt288 : ab_DT := [[(0, .aload_n 0, 1, 0), (1, .iconst 0, 1, 0), (2, .putfield 100, 3, 1), (5, .iload_n 1, 1, 0), (6, .iconst 1, 1, 0), (7, .bipush 9, 2, 0), (9, .invokestatic 171, 3, 3), (12, .ifCond .eq 11, 3, 2), (15, .aload_n 0, 1, 0)],
  [(16, .iload_n 2, 1, 0), (17, .invokevirtual 264, 3, 3), (20, .ifCond .ne 5, 3, 2), (23, .iconst (-1), 1, 0), (24, .ireturn, 1, 6), (25, .iconst (-1), 1, 0), (26, .istore_n 3, 1, 0), (27, .ldc2_w 366, 3, 0), (30, .lstore 4, 2, 0)],
  [(32, .iconst 0, 1, 0), (33, .istore 6, 2, 0), (35, .iload 6, 2, 0), (37, .aload_n 0, 1, 0), (38, .getfield 13, 3, 1), (41, .iconst 2, 1, 0), (42, .iaload, 1, 1), (43, .if_icmp .ge 41, 3, 2), (46, .aload_n 0, 1, 0), (47, .iload 6, 2, 0)],
  [(49, .iload_n 1, 1, 0), (50, .aload_n 0, 1, 0), (51, .iload_n 2, 1, 0), (52, .invokevirtual 303, 3, 3), (55, .invokevirtual 355, 3, 3), (58, .lstore 7, 2, 0), (60, .lload 7, 2, 0), (62, .lload 4, 2, 0)],
  [(64, .lcmp, 1, 2), (65, .ifCond .gt 6, 3, 2), (68, .goto 10, 3, 2), (71, .iload 6, 2, 0), (73, .istore_n 3, 1, 0), (74, .lload 7, 2, 0), (76, .lstore 4, 2, 0), (78, .iinc 6 1, 3, 0)],
  [(81, .goto (-46), 3, 2), (84, .iload_n 3, 1, 0), (85, .ireturn, 1, 6)]]
theorem nn_d288 : ab_dtok prog_14_method_86_code nn_dt288 = true := dw_ok (by decide +kernel)
def nn_dt289 : ab_DT := [[(0, .aload_n 0, 1, 0), (1, .iload_n 1, 1, 0), (2, .iload_n 3, 1, 0), (3, .iload 4, 2, 0), (5, .invokevirtual 342, 3, 3), (8, .ifCond .eq 44, 3, 2), (11, .aload_n 0, 1, 0), (12, .iload_n 2, 1, 0), (13, .invokevirtual 267, 3, 3)],
  [(16, .ifCond .eq 36, 3, 2), (19, .aload_n 0, 1, 0), (20, .iload 4, 2, 0), (22, .invokevirtual 303, 3, 3), (25, .iload_n 2, 1, 0), (26, .invokestatic 216, 3, 3), (29, .ifCond .eq 23, 3, 2)],
  [(32, .iload 5, 2, 0), (34, .iconst 0, 1, 0), (35, .iconst 1, 1, 0), (36, .invokestatic 171, 3, 3), (39, .ifCond .eq 13, 3, 2), (42, .iload 6, 2, 0), (44, .iconst 0, 1, 0), (45, .iconst 1, 1, 0), (46, .invokestatic 171, 3, 3)],
  [(49, .ifCond .ne 8, 3, 2), (52, .aload_n 0, 1, 0), (53, .invokevirtual 345, 3, 3), (56, .lreturn, 1, 6), (57, .aload_n 0, 1, 0), (58, .iload_n 1, 1, 0), (59, .invokevirtual 335, 3, 3), (62, .aload_n 0, 1, 0), (63, .iload_n 2, 1, 0)],
  [(64, .iload_n 3, 1, 0), (65, .aload_n 0, 1, 0), (66, .iload 4, 2, 0), (68, .invokevirtual 303, 3, 3), (71, .invokevirtual 331, 3, 3), (74, .lstore 7, 2, 0), (76, .iload 5, 2, 0), (78, .iconst 1, 1, 0), (79, .if_icmp .ne 13, 3, 2)],
  [(82, .lload 7, 2, 0), (84, .lconst 0, 1, 0), (85, .lcmp, 1, 2), (86, .ifCond .ne 20, 3, 2), (89, .goto 12, 3, 2), (92, .lload 7, 2, 0), (94, .ldc2_w 349, 3, 0)],
  [(97, .lcmp, 1, 2), (98, .ifCond .ne 8, 3, 2), (101, .aload_n 0, 1, 0), (102, .invokevirtual 345, 3, 3), (105, .lreturn, 1, 6), (106, .iload 5, 2, 0), (108, .iconst 1, 1, 0), (109, .if_icmp .ne 14, 3, 2)],
  [(112, .aload_n 0, 1, 0), (113, .lconst 1, 1, 0), (114, .lconst 1, 1, 0), (115, .iload 6, 2, 0), (117, .invokevirtual 351, 3, 3), (120, .goto 29, 3, 2), (123, .aload_n 0, 1, 0), (124, .ldc2_w 368, 3, 0), (127, .aload_n 0, 1, 0)],
  [(128, .getfield 48, 3, 1), (131, .iload_n 2, 1, 0), (132, .iaload, 1, 1), (133, .i2l, 1, 0), (134, .lmul, 1, 0), (135, .lload 7, 2, 0), (137, .lsub, 1, 0), (138, .ldc2_w 349, 3, 0), (141, .lload 7, 2, 0), (143, .lsub, 1, 0)],
  [(144, .iload 6, 2, 0), (146, .invokevirtual 351, 3, 3), (149, .lreturn, 1, 6)]]
theorem nn_d289 : ab_dtok prog_14_method_87_code nn_dt289 = true := dw_ok (by decide +kernel)
def nn_dt290 : ab_DT := [[(0, .aload_n 0, 1, 0), (1, .iconst 0, 1, 0), (2, .putfield 100, 3, 1), (5, .aload_n 0, 1, 0), (6, .iload_n 1, 1, 0), (7, .iload_n 2, 1, 0), (8, .iload_n 3, 1, 0), (9, .invokevirtual 342, 3, 3), (12, .ifCond .eq 14, 3, 2), (15, .iload 4, 2, 0)],
  [(17, .iconst 0, 1, 0), (18, .bipush 9, 2, 0), (20, .invokestatic 171, 3, 3), (23, .ifCond .ne 5, 3, 2), (26, .iconst (-1), 1, 0), (27, .ireturn, 1, 6), (28, .iconst 0, 1, 0), (29, .istore 5, 2, 0), (31, .aload_n 0, 1, 0)],
  [(32, .iload_n 1, 1, 0), (33, .iload_n 2, 1, 0), (34, .aload_n 0, 1, 0), (35, .iload_n 3, 1, 0), (36, .invokevirtual 303, 3, 3), (39, .iconst 0, 1, 0), (40, .invokevirtual 370, 3, 3), (43, .lstore 6, 2, 0), (45, .iconst 1, 1, 0), (46, .istore 8, 2, 0)],
  [(48, .iload 8, 2, 0), (50, .aload_n 0, 1, 0), (51, .iload_n 3, 1, 0), (52, .invokevirtual 303, 3, 3), (55, .if_icmp .gt 90, 3, 2), (58, .iload 8, 2, 0), (60, .aload_n 0, 1, 0), (61, .iload_n 3, 1, 0), (62, .invokevirtual 303, 3, 3)],
  [(65, .iconst (-1), 1, 0), (66, .ixor, 1, 0), (67, .iand, 1, 0), (68, .ifCond .ne 71, 3, 2), (71, .iload 8, 2, 0), (73, .invokestatic 322, 3, 3), (76, .iload 4, 2, 0), (78, .if_icmp .le 6, 3, 2)],
  [(81, .goto 58, 3, 2), (84, .aload_n 0, 1, 0), (85, .iload_n 1, 1, 0), (86, .iload_n 2, 1, 0), (87, .aload_n 0, 1, 0), (88, .iload_n 3, 1, 0), (89, .invokevirtual 303, 3, 3), (92, .iload 8, 2, 0), (94, .invokevirtual 370, 3, 3)],
  [(97, .lstore 9, 2, 0), (99, .lload 9, 2, 0), (101, .lload 6, 2, 0), (103, .lcmp, 1, 2), (104, .ifCond .lt 35, 3, 2), (107, .lload 9, 2, 0), (109, .lload 6, 2, 0), (111, .lcmp, 1, 2)],
  [(112, .ifCond .ne 19, 3, 2), (115, .iload 8, 2, 0), (117, .invokestatic 322, 3, 3), (120, .iload 5, 2, 0), (122, .invokestatic 322, 3, 3), (125, .if_icmp .lt 6, 3, 2)],
  [(128, .goto 11, 3, 2), (131, .iload 8, 2, 0), (133, .istore 5, 2, 0), (135, .lload 9, 2, 0), (137, .lstore 6, 2, 0), (139, .iinc 8 1, 3, 0), (142, .goto (-94), 3, 2)],
  [(145, .iload 5, 2, 0), (147, .ireturn, 1, 6)]]
theorem nn_d290 : ab_dtok prog_14_method_89_code nn_dt290 = true := dw_ok (by decide +kernel)
def nn_dt291 : ab_DT := [[(0, .aload_n 0, 1, 0), (1, .iload_n 1, 1, 0), (2, .invokevirtual 335, 3, 3), (5, .iconst 0, 1, 0), (6, .istore 5, 2, 0), (8, .iload 5, 2, 0), (10, .aload_n 0, 1, 0), (11, .invokevirtual 261, 3, 3), (14, .if_icmp .ge 28, 3, 2)],
  [(17, .iload 4, 2, 0), (19, .iload 5, 2, 0), (21, .invokestatic 216, 3, 3), (24, .ifCond .eq 12, 3, 2), (27, .aload_n 0, 1, 0), (28, .getfield 48, 3, 1), (31, .iload 5, 2, 0)],
  [(33, .bipush 9, 2, 0), (35, .iastore, 1, 1), (36, .iinc 5 1, 3, 0), (39, .goto (-31), 3, 2), (42, .aload_n 0, 1, 0), (43, .iload_n 2, 1, 0), (44, .iload_n 3, 1, 0), (45, .invokevirtual 338, 3, 3)],
  [(48, .lreturn, 1, 6)]]
theorem nn_d291 : ab_dtok prog_14_method_88_code nn_dt291 = true := dw_ok (by decide +kernel)
def nn_dt292 : ab_DT := [[(0, .aload_n 0, 1, 0), (1, .iconst 0, 1, 0), (2, .putfield 100, 3, 1), (5, .aload_n 0, 1, 0), (6, .iload_n 1, 1, 0), (7, .iload_n 2, 1, 0), (8, .iload_n 3, 1, 0), (9, .invokevirtual 342, 3, 3), (12, .ifCond .eq 14, 3, 2), (15, .iload 4, 2, 0)],
  [(17, .iconst 0, 1, 0), (18, .bipush 9, 2, 0), (20, .invokestatic 171, 3, 3), (23, .ifCond .ne 5, 3, 2), (26, .iconst (-1), 1, 0), (27, .ireturn, 1, 6), (28, .iconst (-1), 1, 0), (29, .istore 5, 2, 0), (31, .iconst 0, 1, 0)],
  [(32, .istore 6, 2, 0), (34, .iload 6, 2, 0), (36, .aload_n 0, 1, 0), (37, .iload_n 3, 1, 0), (38, .invokevirtual 303, 3, 3), (41, .if_icmp .gt 69, 3, 2), (44, .iload 6, 2, 0), (46, .aload_n 0, 1, 0), (47, .iload_n 3, 1, 0)],
  [(48, .invokevirtual 303, 3, 3), (51, .iconst (-1), 1, 0), (52, .ixor, 1, 0), (53, .iand, 1, 0), (54, .ifCond .ne 50, 3, 2), (57, .iload 5, 2, 0), (59, .iconst (-1), 1, 0), (60, .if_icmp .eq 19, 3, 2), (63, .iload 6, 2, 0)],
  [(65, .invokestatic 322, 3, 3), (68, .iload 5, 2, 0), (70, .invokestatic 322, 3, 3), (73, .if_icmp .lt 6, 3, 2), (76, .goto 28, 3, 2), (79, .aload_n 0, 1, 0)],
  [(80, .iload_n 1, 1, 0), (81, .iload_n 2, 1, 0), (82, .aload_n 0, 1, 0), (83, .iload_n 3, 1, 0), (84, .invokevirtual 303, 3, 3), (87, .iload 6, 2, 0), (89, .invokevirtual 370, 3, 3), (92, .iload 4, 2, 0), (94, .invokestatic 362, 3, 3)],
  [(97, .ifCond .eq 7, 3, 2), (100, .iload 6, 2, 0), (102, .istore 5, 2, 0), (104, .iinc 6 1, 3, 0), (107, .goto (-73), 3, 2), (110, .iload 5, 2, 0)],
  [(112, .ireturn, 1, 6)]]
theorem nn_d292 : ab_dtok prog_14_method_90_code nn_dt292 = true := dw_ok (by decide +kernel)
def nn_dt293 : ab_DT := [[(0, .aload_n 0, 1, 0), (1, .iconst 0, 1, 0), (2, .putfield 100, 3, 1), (5, .aload_n 0, 1, 0), (6, .iload_n 1, 1, 0), (7, .iload_n 2, 1, 0), (8, .iload_n 3, 1, 0), (9, .iload 4, 2, 0), (11, .invokevirtual 384, 3, 3), (14, .ifCond .ne 5, 3, 2)],
  [(17, .iconst (-1), 1, 0), (18, .ireturn, 1, 6), (19, .aload_n 0, 1, 0), (20, .iload_n 1, 1, 0), (21, .iload_n 2, 1, 0), (22, .iload 4, 2, 0), (24, .invokevirtual 387, 3, 3), (27, .aload_n 0, 1, 0), (28, .getfield 63, 3, 1), (31, .iload_n 3, 1, 0)],
  [(32, .iaload, 1, 1), (33, .ireturn, 1, 6)]]
theorem nn_d293 : ab_dtok prog_14_method_96_code nn_dt293 = true := dw_ok (by decide +kernel)
def nn_dt294 : ab_DT := [[(0, .aload_n 0, 1, 0), (1, .iload_n 1, 1, 0), (2, .iload_n 2, 1, 0), (3, .iload 4, 2, 0), (5, .invokevirtual 381, 3, 3), (8, .ifCond .eq 17, 3, 2), (11, .iload_n 3, 1, 0), (12, .iconst 0, 1, 0), (13, .bipush 9, 2, 0), (15, .invokestatic 171, 3, 3)],
  [(18, .ifCond .eq 7, 3, 2), (21, .iconst 1, 1, 0), (22, .goto 4, 3, 2), (25, .iconst 0, 1, 0), (26, .ireturn, 1, 6)]]
theorem nn_d294 : ab_dtok prog_14_method_95_code nn_dt294 = true := dw_ok (by decide +kernel)
def nn_dt295 : ab_DT := [[(0, .aload_n 0, 1, 0), (1, .iload_n 1, 1, 0), (2, .invokevirtual 281, 3, 3), (5, .ifCond .eq 28, 3, 2), (8, .aload_n 0, 1, 0), (9, .iload_n 2, 1, 0), (10, .invokevirtual 281, 3, 3), (13, .ifCond .eq 20, 3, 2)],
  [(16, .iload_n 1, 1, 0), (17, .iload_n 2, 1, 0), (18, .if_icmp .eq 15, 3, 2), (21, .aload_n 0, 1, 0), (22, .iload_n 3, 1, 0), (23, .invokevirtual 264, 3, 3), (26, .ifCond .eq 7, 3, 2), (29, .iconst 1, 1, 0), (30, .goto 4, 3, 2)],
  [(33, .iconst 0, 1, 0), (34, .ireturn, 1, 6)]]
theorem nn_d295 : ab_dtok prog_14_method_91_code nn_dt295 = true := dw_ok (by decide +kernel)
def nn_dt296 : ab_DT := [[(0, .aload_n 0, 1, 0), (1, .iload_n 1, 1, 0), (2, .iload_n 2, 1, 0), (3, .iload_n 3, 1, 0), (4, .invokevirtual 374, 3, 3), (7, .iconst 1, 1, 0), (8, .istore 4, 2, 0), (10, .iload 4, 2, 0), (12, .bipush 10, 2, 0), (14, .if_icmp .gt 157, 3, 2)],
  [(17, .iload 4, 2, 0), (19, .bipush 10, 2, 0), (21, .irem, 1, 0), (22, .istore 5, 2, 0), (24, .iconst 0, 1, 0), (25, .istore 6, 2, 0), (27, .iload 6, 2, 0), (29, .iconst 2, 1, 0), (30, .if_icmp .ge 135, 3, 2)],
  [(33, .bipush 10, 2, 0), (35, .iload 6, 2, 0), (37, .imul, 1, 0), (38, .iload 5, 2, 0), (40, .iadd, 1, 0), (41, .istore 7, 2, 0), (43, .iload 5, 2, 0), (45, .ifCond .ne 9, 3, 2)],
  [(48, .ldc2_w 366, 3, 0), (51, .goto 23, 3, 2), (54, .ldc2_w 358, 3, 0), (57, .aload_n 0, 1, 0), (58, .getfield 54, 3, 1), (61, .bipush 10, 2, 0), (63, .bipush 10, 2, 0)],
  [(65, .iload 6, 2, 0), (67, .imul, 1, 0), (68, .isub, 1, 0), (69, .iload 5, 2, 0), (71, .iadd, 1, 0), (72, .laload, 1, 1), (73, .lsub, 1, 0), (74, .lstore 8, 2, 0), (76, .aload_n 0, 1, 0), (77, .getfield 63, 3, 1)],
  [(80, .iload 7, 2, 0), (82, .iconst 0, 1, 0), (83, .iastore, 1, 1), (84, .aload_n 0, 1, 0), (85, .iload 5, 2, 0), (87, .invokevirtual 378, 3, 3), (90, .istore 10, 2, 0), (92, .iload 10, 2, 0), (94, .iconst 1, 1, 0), (95, .if_icmp .lt 55, 3, 2)],
  [(98, .ldc2_w 358, 3, 0), (101, .aload_n 0, 1, 0), (102, .getfield 57, 3, 1), (105, .bipush 10, 2, 0), (107, .bipush 10, 2, 0), (109, .iload 6, 2, 0), (111, .imul, 1, 0)],
  [(112, .isub, 1, 0), (113, .iload 10, 2, 0), (115, .iadd, 1, 0), (116, .laload, 1, 1), (117, .lsub, 1, 0), (118, .lstore 11, 2, 0), (120, .lload 11, 2, 0), (122, .lload 8, 2, 0), (124, .lcmp, 1, 2), (125, .ifCond .gt 6, 3, 2)],
  [(128, .goto 16, 3, 2), (131, .lload 11, 2, 0), (133, .lstore 8, 2, 0), (135, .aload_n 0, 1, 0), (136, .getfield 63, 3, 1), (139, .iload 7, 2, 0), (141, .iload 10, 2, 0), (143, .iastore, 1, 1)],
  [(144, .iinc 10 (-1), 3, 0), (147, .goto (-55), 3, 2), (150, .aload_n 0, 1, 0), (151, .getfield 57, 3, 1), (154, .iload 7, 2, 0), (156, .lload 8, 2, 0), (158, .lastore, 1, 1), (159, .iinc 6 1, 3, 0)],
  [(162, .goto (-135), 3, 2), (165, .iinc 4 1, 3, 0), (168, .goto (-158), 3, 2), (171, .return_, 1, 6)]]
theorem nn_d296 : ab_dtok prog_14_method_94_code nn_dt296 = true := dw_ok (by decide +kernel)
def nn_dt297 : ab_DT := [[(0, .iconst 1, 1, 0), (1, .istore 4, 2, 0), (3, .iload 4, 2, 0), (5, .bipush 9, 2, 0), (7, .if_icmp .gt 50, 3, 2), (10, .aload_n 0, 1, 0), (11, .getfield 54, 3, 1), (14, .iload 4, 2, 0)],
  [(16, .aload_n 0, 1, 0), (17, .iload_n 1, 1, 0), (18, .iload 4, 2, 0), (20, .aload_n 0, 1, 0), (21, .iload_n 3, 1, 0), (22, .invokevirtual 303, 3, 3), (25, .invokevirtual 355, 3, 3), (28, .lastore, 1, 1), (29, .aload_n 0, 1, 0), (30, .getfield 54, 3, 1)],
  [(33, .bipush 10, 2, 0), (35, .iload 4, 2, 0), (37, .iadd, 1, 0), (38, .aload_n 0, 1, 0), (39, .iload_n 2, 1, 0), (40, .iload 4, 2, 0), (42, .aload_n 0, 1, 0), (43, .iload_n 3, 1, 0), (44, .invokevirtual 303, 3, 3), (47, .invokevirtual 355, 3, 3)],
  [(50, .lastore, 1, 1), (51, .iinc 4 1, 3, 0), (54, .goto (-51), 3, 2), (57, .return_, 1, 6)]]
theorem nn_d297 : ab_dtok prog_14_method_92_code nn_dt297 = true := dw_ok (by decide +kernel)
def nn_dt298 : ab_DT := [[(0, .iload_n 1, 1, 0), (1, .ifCond .ne 12, 3, 2), (4, .aload_n 0, 1, 0), (5, .getfield 13, 3, 1), (8, .iconst 3, 1, 0), (9, .iaload, 1, 1), (10, .goto 6, 3, 2), (13, .iload_n 1, 1, 0), (14, .iconst 1, 1, 0), (15, .isub, 1, 0)],
  [(16, .ireturn, 1, 6)]]
theorem nn_d298 : ab_dtok prog_14_method_93_code nn_dt298 = true := dw_ok (by decide +kernel)
def nn_dt299 : ab_DT := [[(0, .aload_n 0, 1, 0), (1, .iload_n 1, 1, 0), (2, .iload_n 2, 1, 0), (3, .iload_n 3, 1, 0), (4, .iload 4, 2, 0), (6, .invokevirtual 384, 3, 3), (9, .ifCond .eq 13, 3, 2), (12, .iload 5, 2, 0), (14, .iconst 0, 1, 0), (15, .iconst 1, 1, 0)],
  [(16, .invokestatic 171, 3, 3), (19, .ifCond .ne 8, 3, 2), (22, .aload_n 0, 1, 0), (23, .invokevirtual 345, 3, 3), (26, .lreturn, 1, 6), (27, .aload_n 0, 1, 0), (28, .iload_n 1, 1, 0), (29, .iload_n 2, 1, 0), (30, .iload 4, 2, 0)],
  [(32, .invokevirtual 387, 3, 3), (35, .aload_n 0, 1, 0), (36, .aload_n 0, 1, 0), (37, .getfield 57, 3, 1), (40, .iload_n 3, 1, 0), (41, .laload, 1, 1), (42, .ldc2_w 358, 3, 0), (45, .iload 5, 2, 0), (47, .invokevirtual 351, 3, 3)],
  [(50, .lreturn, 1, 6)]]
theorem nn_d299 : ab_dtok prog_14_method_97_code nn_dt299 = true := dw_ok (by decide +kernel)
def nn_dt300 : ab_DT := [[(0, .aload_n 0, 1, 0), (1, .iconst 0, 1, 0), (2, .putfield 100, 3, 1), (5, .aload_n 0, 1, 0), (6, .iload_n 1, 1, 0), (7, .iload_n 2, 1, 0), (8, .iload_n 3, 1, 0), (9, .iload 4, 2, 0), (11, .invokevirtual 384, 3, 3), (14, .ifCond .ne 5, 3, 2)],
  [(17, .iconst (-1), 1, 0), (18, .ireturn, 1, 6), (19, .aload_n 0, 1, 0), (20, .iload_n 1, 1, 0), (21, .iload_n 2, 1, 0), (22, .iload 4, 2, 0), (24, .invokevirtual 393, 3, 3), (27, .aload_n 0, 1, 0), (28, .getfield 66, 3, 1), (31, .iload_n 3, 1, 0)],
  [(32, .iaload, 1, 1), (33, .ireturn, 1, 6)]]
theorem nn_d300 : ab_dtok prog_14_method_100_code nn_dt300 = true := dw_ok (by decide +kernel)
def nn_dt301 : ab_DT := [[(0, .aload_n 0, 1, 0), (1, .iload_n 1, 1, 0), (2, .iload_n 2, 1, 0), (3, .iload_n 3, 1, 0), (4, .invokevirtual 374, 3, 3), (7, .iconst 1, 1, 0), (8, .istore 4, 2, 0), (10, .iload 4, 2, 0), (12, .bipush 10, 2, 0), (14, .if_icmp .gt 113, 3, 2)],
  [(17, .iload 4, 2, 0), (19, .bipush 10, 2, 0), (21, .irem, 1, 0), (22, .istore 5, 2, 0), (24, .iload 5, 2, 0), (26, .ifCond .ne 9, 3, 2), (29, .ldc2_w 366, 3, 0)],
  [(32, .goto 17, 3, 2), (35, .ldc2_w 358, 3, 0), (38, .aload_n 0, 1, 0), (39, .getfield 54, 3, 1), (42, .bipush 10, 2, 0), (44, .iload 5, 2, 0), (46, .iadd, 1, 0), (47, .laload, 1, 1)],
  [(48, .lsub, 1, 0), (49, .lstore 6, 2, 0), (51, .aload_n 0, 1, 0), (52, .getfield 66, 3, 1), (55, .iload 5, 2, 0), (57, .iconst 0, 1, 0), (58, .iastore, 1, 1), (59, .aload_n 0, 1, 0), (60, .iload 5, 2, 0), (62, .invokevirtual 378, 3, 3)],
  [(65, .istore 8, 2, 0), (67, .iload 8, 2, 0), (69, .iconst 1, 1, 0), (70, .if_icmp .lt 42, 3, 2), (73, .aload_n 0, 1, 0), (74, .iload 8, 2, 0), (76, .iload_n 2, 1, 0), (77, .invokevirtual 390, 3, 3)],
  [(80, .lstore 9, 2, 0), (82, .lload 9, 2, 0), (84, .lload 6, 2, 0), (86, .lcmp, 1, 2), (87, .ifCond .gt 6, 3, 2), (90, .goto 16, 3, 2), (93, .lload 9, 2, 0), (95, .lstore 6, 2, 0)],
  [(97, .aload_n 0, 1, 0), (98, .getfield 66, 3, 1), (101, .iload 5, 2, 0), (103, .iload 8, 2, 0), (105, .iastore, 1, 1), (106, .iinc 8 (-1), 3, 0), (109, .goto (-42), 3, 2)],
  [(112, .aload_n 0, 1, 0), (113, .getfield 60, 3, 1), (116, .iload 5, 2, 0), (118, .lload 6, 2, 0), (120, .lastore, 1, 1), (121, .iinc 4 1, 3, 0), (124, .goto (-114), 3, 2), (127, .return_, 1, 6)]]
theorem nn_d301 : ab_dtok prog_14_method_99_code nn_dt301 = true := dw_ok (by decide +kernel)
def nn_dt302 : ab_DT := [[(0, .iload_n 1, 1, 0), (1, .iconst 1, 1, 0), (2, .if_icmp .eq 30, 3, 2), (5, .aload_n 0, 1, 0), (6, .getfield 54, 3, 1), (9, .bipush 10, 2, 0), (11, .iload_n 1, 1, 0), (12, .iadd, 1, 0), (13, .iconst 1, 1, 0), (14, .isub, 1, 0), (15, .laload, 1, 1)],
  [(16, .aload_n 0, 1, 0), (17, .getfield 13, 3, 1), (20, .sipush 227, 3, 0), (23, .iload_n 2, 1, 0), (24, .iadd, 1, 0), (25, .iaload, 1, 1), (26, .invokestatic 362, 3, 3), (29, .ifCond .ne 10, 3, 2)],
  [(32, .aload_n 0, 1, 0), (33, .getfield 54, 3, 1), (36, .iload_n 1, 1, 0), (37, .laload, 1, 1), (38, .lreturn, 1, 6), (39, .aload_n 0, 1, 0), (40, .getfield 60, 3, 1), (43, .iload_n 1, 1, 0), (44, .iconst 1, 1, 0), (45, .isub, 1, 0), (46, .laload, 1, 1), (47, .lreturn, 1, 6)]]
theorem nn_d302 : ab_dtok prog_14_method_98_code nn_dt302 = true := dw_ok (by decide +kernel)
def nn_dt303 : ab_DT := [[(0, .aload_n 0, 1, 0), (1, .iload_n 1, 1, 0), (2, .iload_n 2, 1, 0), (3, .iload_n 3, 1, 0), (4, .iload 4, 2, 0), (6, .invokevirtual 384, 3, 3), (9, .ifCond .eq 13, 3, 2), (12, .iload 5, 2, 0), (14, .iconst 0, 1, 0), (15, .iconst 1, 1, 0)],
  [(16, .invokestatic 171, 3, 3), (19, .ifCond .ne 8, 3, 2), (22, .aload_n 0, 1, 0), (23, .invokevirtual 345, 3, 3), (26, .lreturn, 1, 6), (27, .aload_n 0, 1, 0), (28, .iload_n 1, 1, 0), (29, .iload_n 2, 1, 0), (30, .iload 4, 2, 0)],
  [(32, .invokevirtual 393, 3, 3), (35, .aload_n 0, 1, 0), (36, .aload_n 0, 1, 0), (37, .getfield 60, 3, 1), (40, .iload_n 3, 1, 0), (41, .laload, 1, 1), (42, .ldc2_w 358, 3, 0), (45, .iload 5, 2, 0), (47, .invokevirtual 351, 3, 3)],
  [(50, .lreturn, 1, 6)]]
theorem nn_d303 : ab_dtok prog_14_method_101_code nn_dt303 = true := dw_ok (by decide +kernel)
def nn_dt304 : ab_DT := [[(0, .aload_n 0, 1, 0), (1, .iconst 0, 1, 0), (2, .putfield 100, 3, 1), (5, .aload_n 0, 1, 0), (6, .iload_n 1, 1, 0), (7, .iload_n 2, 1, 0), (8, .iload_n 3, 1, 0), (9, .invokevirtual 381, 3, 3), (12, .ifCond .ne 5, 3, 2), (15, .iconst (-1), 1, 0)],
  [(16, .ireturn, 1, 6), (17, .aload_n 0, 1, 0), (18, .iload_n 1, 1, 0), (19, .iload_n 2, 1, 0), (20, .iload_n 3, 1, 0), (21, .invokevirtual 387, 3, 3), (24, .ldc2_w 396, 3, 0), (27, .aload_n 0, 1, 0), (28, .getfield 57, 3, 1), (31, .iconst 0, 1, 0)],
  [(32, .laload, 1, 1), (33, .lmul, 1, 0), (34, .lstore 4, 2, 0), (36, .ldc2_w 396, 3, 0), (39, .ldc2_w 358, 3, 0), (42, .aload_n 0, 1, 0), (43, .getfield 57, 3, 1), (46, .bipush 10, 2, 0)],
  [(48, .laload, 1, 1), (49, .lsub, 1, 0), (50, .lmul, 1, 0), (51, .lstore 6, 2, 0), (53, .lload 4, 2, 0), (55, .ldc2_w 358, 3, 0), (58, .lcmp, 1, 2), (59, .ifCond .le 14, 3, 2), (62, .lload 6, 2, 0)],
  [(64, .ldc2_w 358, 3, 0), (67, .lcmp, 1, 2), (68, .ifCond .le 5, 3, 2), (71, .iconst 1, 1, 0), (72, .ireturn, 1, 6), (73, .lload 4, 2, 0), (75, .ldc2_w 358, 3, 0), (78, .lcmp, 1, 2), (79, .ifCond .ge 16, 3, 2)],
  [(82, .lload 6, 2, 0), (84, .ldc2_w 358, 3, 0), (87, .lcmp, 1, 2), (88, .ifCond .ge 7, 3, 2), (91, .iconst (-1), 1, 0), (92, .goto 4, 3, 2), (95, .iconst 0, 1, 0)],
  [(96, .ireturn, 1, 6)]]
theorem nn_d304 : ab_dtok prog_14_method_102_code nn_dt304 = true := dw_ok (by decide +kernel)
def nn_dt305 : ab_DT := [[(0, .aload_n 0, 1, 0), (1, .iconst 0, 1, 0), (2, .putfield 100, 3, 1), (5, .aload_n 0, 1, 0), (6, .iload_n 1, 1, 0), (7, .iload_n 2, 1, 0), (8, .iload_n 3, 1, 0), (9, .invokevirtual 381, 3, 3), (12, .ifCond .eq 13, 3, 2), (15, .aload_n 0, 1, 0)],
  [(16, .iload_n 1, 1, 0), (17, .iload_n 2, 1, 0), (18, .iload_n 3, 1, 0), (19, .invokevirtual 398, 3, 3), (22, .goto 4, 3, 2), (25, .iconst (-1), 1, 0), (26, .ireturn, 1, 6)]]
theorem nn_d305 : ab_dtok prog_14_method_104_code nn_dt305 = true := dw_ok (by decide +kernel)
def nn_dt306 : ab_DT := [[(0, .aload_n 0, 1, 0), (1, .iload_n 1, 1, 0), (2, .iload_n 2, 1, 0), (3, .iload_n 3, 1, 0), (4, .invokevirtual 387, 3, 3), (7, .iconst 0, 1, 0), (8, .istore 4, 2, 0), (10, .iconst 0, 1, 0), (11, .istore 5, 2, 0), (13, .aload_n 0, 1, 0), (14, .getfield 63, 3, 1)],
  [(17, .bipush 10, 2, 0), (19, .iload 5, 2, 0), (21, .imul, 1, 0), (22, .iload 4, 2, 0), (24, .iadd, 1, 0), (25, .iaload, 1, 1), (26, .ifCond .eq 27, 3, 2), (29, .aload_n 0, 1, 0), (30, .getfield 63, 3, 1)],
  [(33, .bipush 10, 2, 0), (35, .iload 5, 2, 0), (37, .imul, 1, 0), (38, .iload 4, 2, 0), (40, .iadd, 1, 0), (41, .iaload, 1, 1), (42, .istore 4, 2, 0), (44, .iconst 1, 1, 0), (45, .iload 5, 2, 0), (47, .isub, 1, 0)],
  [(48, .istore 5, 2, 0), (50, .goto (-37), 3, 2), (53, .iload 4, 2, 0), (55, .ireturn, 1, 6)]]
theorem nn_d306 : ab_dtok prog_14_method_103_code nn_dt306 = true := dw_ok (by decide +kernel)
def nn_dt307 : ab_DT := [[(0, .aload_n 0, 1, 0), (1, .iconst 0, 1, 0), (2, .putfield 100, 3, 1), (5, .iconst (-1), 1, 0), (6, .istore_n 3, 1, 0), (7, .bipush 99, 2, 0), (9, .istore 4, 2, 0), (11, .iconst 0, 1, 0), (12, .istore 5, 2, 0), (14, .iload 5, 2, 0)],
  [(16, .aload_n 0, 1, 0), (17, .getfield 13, 3, 1), (20, .iconst 1, 1, 0), (21, .iaload, 1, 1), (22, .if_icmp .ge 47, 3, 2), (25, .aload_n 0, 1, 0), (26, .iload_n 1, 1, 0), (27, .iload_n 2, 1, 0), (28, .iload 5, 2, 0), (30, .invokevirtual 381, 3, 3)],
  [(33, .ifCond .eq 36, 3, 2), (36, .aload_n 0, 1, 0), (37, .iload_n 1, 1, 0), (38, .iload_n 2, 1, 0), (39, .iload 5, 2, 0), (41, .invokevirtual 398, 3, 3), (44, .istore 6, 2, 0), (46, .iload 6, 2, 0)],
  [(48, .iload 4, 2, 0), (50, .if_icmp .lt 6, 3, 2), (53, .goto 10, 3, 2), (56, .iload 5, 2, 0), (58, .istore_n 3, 1, 0), (59, .iload 6, 2, 0), (61, .istore 4, 2, 0), (63, .iinc 5 1, 3, 0)],
  [(66, .goto (-52), 3, 2), (69, .iload_n 3, 1, 0), (70, .ireturn, 1, 6)]]
theorem nn_d307 : ab_dtok prog_14_method_105_code nn_dt307 = true := dw_ok (by decide +kernel)
def nn_dt308 : ab_DT := [[(0, .aload_n 0, 1, 0), (1, .iconst 0, 1, 0), (2, .putfield 100, 3, 1), (5, .iconst (-1), 1, 0), (6, .istore_n 3, 1, 0), (7, .lconst 0, 1, 0), (8, .lstore 4, 2, 0), (10, .iconst 0, 1, 0), (11, .istore 6, 2, 0), (13, .iload 6, 2, 0), (15, .aload_n 0, 1, 0)],
  [(16, .getfield 13, 3, 1), (19, .iconst 1, 1, 0), (20, .iaload, 1, 1), (21, .if_icmp .ge 79, 3, 2), (24, .aload_n 0, 1, 0), (25, .iload_n 1, 1, 0), (26, .iload_n 2, 1, 0), (27, .iload 6, 2, 0), (29, .invokevirtual 381, 3, 3)],
  [(32, .ifCond .eq 68, 3, 2), (35, .aload_n 0, 1, 0), (36, .iload_n 1, 1, 0), (37, .iload_n 2, 1, 0), (38, .iload 6, 2, 0), (40, .invokevirtual 387, 3, 3), (43, .ldc2_w 396, 3, 0), (46, .aload_n 0, 1, 0), (47, .getfield 57, 3, 1)],
  [(50, .iconst 0, 1, 0), (51, .laload, 1, 1), (52, .lmul, 1, 0), (53, .ldc2_w 358, 3, 0), (56, .lsub, 1, 0), (57, .lstore 7, 2, 0), (59, .lload 7, 2, 0), (61, .lconst 0, 1, 0), (62, .lcmp, 1, 2), (63, .ifCond .ge 8, 3, 2)],
  [(66, .lload 7, 2, 0), (68, .lneg, 1, 0), (69, .lstore 7, 2, 0), (71, .iload_n 3, 1, 0), (72, .iconst (-1), 1, 0), (73, .if_icmp .eq 14, 3, 2), (76, .lload 7, 2, 0), (78, .lload 4, 2, 0)],
  [(80, .lcmp, 1, 2), (81, .ifCond .lt 6, 3, 2), (84, .goto 10, 3, 2), (87, .iload 6, 2, 0), (89, .istore_n 3, 1, 0), (90, .lload 7, 2, 0), (92, .lstore 4, 2, 0), (94, .iinc 6 1, 3, 0)],
  [(97, .goto (-84), 3, 2), (100, .iload_n 3, 1, 0), (101, .ireturn, 1, 6)]]
theorem nn_d308 : ab_dtok prog_14_method_106_code nn_dt308 = true := dw_ok (by decide +kernel)
def nn_dt309 : ab_DT := [[(0, .aload_n 0, 1, 0), (1, .iconst 0, 1, 0), (2, .putfield 100, 3, 1), (5, .aload_n 0, 1, 0), (6, .iload_n 1, 1, 0), (7, .iload_n 2, 1, 0), (8, .iload_n 3, 1, 0), (9, .invokevirtual 381, 3, 3), (12, .ifCond .ne 5, 3, 2), (15, .iconst (-1), 1, 0)],
  [(16, .ireturn, 1, 6), (17, .aload_n 0, 1, 0), (18, .iload_n 1, 1, 0), (19, .iload_n 2, 1, 0), (20, .iload_n 3, 1, 0), (21, .invokevirtual 387, 3, 3), (24, .aload_n 0, 1, 0), (25, .iconst 0, 1, 0), (26, .putfield 401, 3, 1), (29, .aload_n 0, 1, 0), (30, .iconst 1, 1, 0), (31, .invokestatic 158, 3, 3)],
  [(34, .invokevirtual 407, 3, 3), (37, .aload_n 0, 1, 0), (38, .bipush 32, 2, 0), (40, .invokevirtual 404, 3, 3), (43, .aload_n 0, 1, 0), (44, .aload_n 0, 1, 0), (45, .getfield 25, 3, 1)],
  [(48, .bipush 9, 2, 0), (50, .iload_n 3, 1, 0), (51, .iadd, 1, 0), (52, .laload, 1, 1), (53, .invokevirtual 407, 3, 3), (56, .aload_n 0, 1, 0), (57, .bipush 59, 2, 0), (59, .invokevirtual 404, 3, 3), (62, .iconst 0, 1, 0), (63, .istore 4, 2, 0)],
  [(65, .iconst 0, 1, 0), (66, .istore 5, 2, 0), (68, .iconst 0, 1, 0), (69, .istore 6, 2, 0), (71, .iload 6, 2, 0), (73, .ifCond .ne 103, 3, 2), (76, .aload_n 0, 1, 0), (77, .getfield 63, 3, 1)],
  [(80, .bipush 10, 2, 0), (82, .iload 5, 2, 0), (84, .imul, 1, 0), (85, .iload 4, 2, 0), (87, .iadd, 1, 0), (88, .iaload, 1, 1), (89, .istore 7, 2, 0), (91, .aload_n 0, 1, 0), (92, .aload_n 0, 1, 0), (93, .getfield 25, 3, 1)],
  [(96, .bipush 15, 2, 0), (98, .iload 5, 2, 0), (100, .ifCond .ne 7, 3, 2), (103, .iload_n 1, 1, 0), (104, .goto 4, 3, 2), (107, .iload_n 2, 1, 0), (108, .iadd, 1, 0), (109, .laload, 1, 1), (110, .invokevirtual 407, 3, 3)],
  [(113, .aload_n 0, 1, 0), (114, .bipush 32, 2, 0), (116, .invokevirtual 404, 3, 3), (119, .iload 7, 2, 0), (121, .ifCond .ne 15, 3, 2), (124, .aload_n 0, 1, 0), (125, .bipush 6, 2, 0), (127, .invokestatic 158, 3, 3)],
  [(130, .invokevirtual 407, 3, 3), (133, .goto 12, 3, 2), (136, .aload_n 0, 1, 0), (137, .bipush 48, 2, 0), (139, .iload 7, 2, 0), (141, .iadd, 1, 0), (142, .invokevirtual 404, 3, 3)],
  [(145, .aload_n 0, 1, 0), (146, .bipush 59, 2, 0), (148, .invokevirtual 404, 3, 3), (151, .iload 7, 2, 0), (153, .ifCond .ne 7, 3, 2), (156, .iconst 1, 1, 0), (157, .goto 4, 3, 2)],
  [(160, .iconst 0, 1, 0), (161, .istore 6, 2, 0), (163, .iload 7, 2, 0), (165, .istore 4, 2, 0), (167, .iconst 1, 1, 0), (168, .iload 5, 2, 0), (170, .isub, 1, 0), (171, .istore 5, 2, 0), (173, .goto (-102), 3, 2)],
  [(176, .aload_n 0, 1, 0), (177, .getfield 401, 3, 1), (180, .ireturn, 1, 6)]]
theorem nn_d309 : ab_dtok prog_14_method_109_code nn_dt309 = true := dw_ok (by decide +kernel)
def nn_dt310 : ab_DT := [[(0, .iconst 0, 1, 0), (1, .istore_n 3, 1, 0), (2, .lload_n 1, 1, 0), (3, .lstore 4, 2, 0), (5, .lload 4, 2, 0), (7, .lconst 0, 1, 0), (8, .lcmp, 1, 2), (9, .ifCond .le 33, 3, 2), (12, .aload_n 0, 1, 0), (13, .getfield 72, 3, 1)],
  [(16, .iload_n 3, 1, 0), (17, .lload 4, 2, 0), (19, .ldc2_w 150, 3, 0), (22, .lrem, 1, 0), (23, .l2i, 1, 0), (24, .bipush 96, 2, 0), (26, .iadd, 1, 0), (27, .iastore, 1, 1), (28, .iinc 3 1, 3, 0), (31, .lload 4, 2, 0)],
  [(33, .ldc2_w 150, 3, 0), (36, .ldiv, 1, 0), (37, .lstore 4, 2, 0), (39, .goto (-34), 3, 2), (42, .iload_n 3, 1, 0), (43, .iconst 1, 1, 0), (44, .isub, 1, 0), (45, .istore 4, 2, 0), (47, .iload 4, 2, 0)],
  [(49, .ifCond .lt 20, 3, 2), (52, .aload_n 0, 1, 0), (53, .aload_n 0, 1, 0), (54, .getfield 72, 3, 1), (57, .iload 4, 2, 0), (59, .iaload, 1, 1), (60, .invokevirtual 404, 3, 3), (63, .iinc 4 (-1), 3, 0)],
  [(66, .goto (-19), 3, 2), (69, .return_, 1, 6)]]
theorem nn_d310 : ab_dtok prog_14_method_108_code nn_dt310 = true := dw_ok (by decide +kernel)
def nn_dt311 : ab_DT := [[(0, .aload_n 0, 1, 0), (1, .getfield 69, 3, 1), (4, .aload_n 0, 1, 0), (5, .getfield 401, 3, 1), (8, .iload_n 1, 1, 0), (9, .iastore, 1, 1), (10, .aload_n 0, 1, 0), (11, .dup, 1, 0), (12, .getfield 401, 3, 1), (15, .iconst 1, 1, 0)],
  [(16, .iadd, 1, 0), (17, .putfield 401, 3, 1), (20, .return_, 1, 6)]]
theorem nn_d311 : ab_dtok prog_14_method_107_code nn_dt311 = true := dw_ok (by decide +kernel)
def nn_dt312 : ab_DT := [[(0, .aload_n 0, 1, 0), (1, .iconst 0, 1, 0), (2, .putfield 100, 3, 1), (5, .aload_n 0, 1, 0), (6, .iload_n 1, 1, 0), (7, .invokevirtual 267, 3, 3), (10, .ifCond .ne 5, 3, 2), (13, .iconst (-1), 1, 0), (14, .ireturn, 1, 6), (15, .aload_n 0, 1, 0)],
  [(16, .iconst 0, 1, 0), (17, .putfield 401, 3, 1), (20, .iconst 0, 1, 0), (21, .istore_n 2, 1, 0), (22, .iload_n 2, 1, 0), (23, .iconst 2, 1, 0), (24, .aload_n 0, 1, 0), (25, .iload_n 1, 1, 0), (26, .invokevirtual 270, 3, 3), (29, .imul, 1, 0), (30, .if_icmp .ge 59, 3, 2)],
  [(33, .iload_n 2, 1, 0), (34, .ifCond .le 9, 3, 2), (37, .aload_n 0, 1, 0), (38, .bipush 32, 2, 0), (40, .invokevirtual 404, 3, 3), (43, .aload_n 0, 1, 0), (44, .iload_n 1, 1, 0), (45, .iload_n 2, 1, 0), (46, .iconst 2, 1, 0), (47, .idiv, 1, 0)],
  [(48, .iload_n 2, 1, 0), (49, .iconst 2, 1, 0), (50, .irem, 1, 0), (51, .invokevirtual 273, 3, 3), (54, .istore_n 3, 1, 0), (55, .iload_n 3, 1, 0), (56, .bipush 9, 2, 0), (58, .if_icmp .le 14, 3, 2), (61, .aload_n 0, 1, 0), (62, .bipush 48, 2, 0)],
  [(64, .iload_n 3, 1, 0), (65, .bipush 10, 2, 0), (67, .idiv, 1, 0), (68, .iadd, 1, 0), (69, .invokevirtual 404, 3, 3), (72, .aload_n 0, 1, 0), (73, .bipush 48, 2, 0), (75, .iload_n 3, 1, 0), (76, .bipush 10, 2, 0), (78, .irem, 1, 0), (79, .iadd, 1, 0)],
  [(80, .invokevirtual 404, 3, 3), (83, .iinc 2 1, 3, 0), (86, .goto (-64), 3, 2), (89, .aload_n 0, 1, 0), (90, .getfield 401, 3, 1), (93, .ireturn, 1, 6)]]
theorem nn_d312 : ab_dtok prog_14_method_110_code nn_dt312 = true := dw_ok (by decide +kernel)
def nn_dt313 : ab_DT := [[(0, .aload_n 0, 1, 0), (1, .iconst 0, 1, 0), (2, .putfield 100, 3, 1), (5, .iload_n 1, 1, 0), (6, .ifCond .lt 20, 3, 2), (9, .iload_n 1, 1, 0), (10, .aload_n 0, 1, 0), (11, .getfield 401, 3, 1), (14, .if_icmp .ge 12, 3, 2)],
  [(17, .aload_n 0, 1, 0), (18, .getfield 69, 3, 1), (21, .iload_n 1, 1, 0), (22, .iaload, 1, 1), (23, .goto 4, 3, 2), (26, .iconst (-1), 1, 0), (27, .ireturn, 1, 6)]]
theorem nn_d313 : ab_dtok prog_14_method_111_code nn_dt313 = true := dw_ok (by decide +kernel)
def nn_dt314 : ab_DT := [[(0, .aload_n 0, 1, 0), (1, .iconst 0, 1, 0), (2, .putfield 100, 3, 1), (5, .aload_n 0, 1, 0), (6, .getfield 258, 3, 1), (9, .ifCond .ne 5, 3, 2), (12, .iconst (-1), 1, 0), (13, .ireturn, 1, 6), (14, .aload_n 0, 1, 0), (15, .dup, 1, 0)],
  [(16, .getfield 258, 3, 1), (19, .iconst 1, 1, 0), (20, .isub, 1, 0), (21, .putfield 258, 3, 1), (24, .iconst 0, 1, 0), (25, .istore_n 1, 1, 0), (26, .iload_n 1, 1, 0), (27, .bipush 50, 2, 0), (29, .if_icmp .ge 33, 3, 2)],
  [(32, .aload_n 0, 1, 0), (33, .getfield 13, 3, 1), (36, .sipush 182, 3, 0), (39, .iload_n 1, 1, 0), (40, .iadd, 1, 0), (41, .aload_n 0, 1, 0), (42, .getfield 22, 3, 1), (45, .bipush 50, 2, 0), (47, .aload_n 0, 1, 0)],
  [(48, .getfield 258, 3, 1), (51, .imul, 1, 0), (52, .iload_n 1, 1, 0), (53, .iadd, 1, 0), (54, .iaload, 1, 1), (55, .iastore, 1, 1), (56, .iinc 1 1, 3, 0), (59, .goto (-33), 3, 2), (62, .aload_n 0, 1, 0), (63, .getfield 258, 3, 1)],
  [(66, .ireturn, 1, 6)]]
theorem nn_d314 : ab_dtok prog_14_method_113_code nn_dt314 = true := dw_ok (by decide +kernel)
def nn_dt315 : ab_DT := [[(0, .aload_n 0, 1, 0), (1, .iconst 0, 1, 0), (2, .putfield 100, 3, 1), (5, .aload_n 0, 1, 0), (6, .iload_n 1, 1, 0), (7, .invokevirtual 281, 3, 3), (10, .ifCond .eq 31, 3, 2), (13, .aload_n 0, 1, 0), (14, .iload_n 2, 1, 0), (15, .invokevirtual 267, 3, 3)],
  [(18, .ifCond .eq 23, 3, 2), (21, .iload_n 3, 1, 0), (22, .iconst 0, 1, 0), (23, .bipush 9, 2, 0), (25, .invokestatic 171, 3, 3), (28, .ifCond .eq 13, 3, 2), (31, .aload_n 0, 1, 0)],
  [(32, .iload_n 1, 1, 0), (33, .iload_n 2, 1, 0), (34, .invokevirtual 284, 3, 3), (37, .iload_n 3, 1, 0), (38, .if_icmp .ne 5, 3, 2), (41, .iconst 0, 1, 0), (42, .ireturn, 1, 6), (43, .aload_n 0, 1, 0), (44, .invokevirtual 411, 3, 3), (47, .aload_n 0, 1, 0)],
  [(48, .getfield 13, 3, 1), (51, .sipush 182, 3, 0), (54, .bipush 9, 2, 0), (56, .iload_n 1, 1, 0), (57, .imul, 1, 0), (58, .iadd, 1, 0), (59, .iload_n 2, 1, 0), (60, .iadd, 1, 0), (61, .iload_n 3, 1, 0), (62, .iastore, 1, 1), (63, .iconst 1, 1, 0)],
  [(64, .ireturn, 1, 6)]]
theorem nn_d315 : ab_dtok prog_14_method_114_code nn_dt315 = true := dw_ok (by decide +kernel)
def nn_dt316 : ab_DT := [[(0, .aload_n 0, 1, 0), (1, .getfield 258, 3, 1), (4, .bipush 8, 2, 0), (6, .if_icmp .ne 44, 3, 2), (9, .bipush 50, 2, 0), (11, .istore_n 1, 1, 0), (12, .iload_n 1, 1, 0), (13, .sipush 400, 3, 0)],
  [(16, .if_icmp .ge 24, 3, 2), (19, .aload_n 0, 1, 0), (20, .getfield 22, 3, 1), (23, .iload_n 1, 1, 0), (24, .bipush 50, 2, 0), (26, .isub, 1, 0), (27, .aload_n 0, 1, 0), (28, .getfield 22, 3, 1), (31, .iload_n 1, 1, 0)],
  [(32, .iaload, 1, 1), (33, .iastore, 1, 1), (34, .iinc 1 1, 3, 0), (37, .goto (-25), 3, 2), (40, .aload_n 0, 1, 0), (41, .dup, 1, 0), (42, .getfield 258, 3, 1), (45, .iconst 1, 1, 0), (46, .isub, 1, 0), (47, .putfield 258, 3, 1)],
  [(50, .iconst 0, 1, 0), (51, .istore_n 1, 1, 0), (52, .iload_n 1, 1, 0), (53, .bipush 50, 2, 0), (55, .if_icmp .ge 33, 3, 2), (58, .aload_n 0, 1, 0), (59, .getfield 22, 3, 1), (62, .bipush 50, 2, 0)],
  [(64, .aload_n 0, 1, 0), (65, .getfield 258, 3, 1), (68, .imul, 1, 0), (69, .iload_n 1, 1, 0), (70, .iadd, 1, 0), (71, .aload_n 0, 1, 0), (72, .getfield 13, 3, 1), (75, .sipush 182, 3, 0), (78, .iload_n 1, 1, 0), (79, .iadd, 1, 0)],
  [(80, .iaload, 1, 1), (81, .iastore, 1, 1), (82, .iinc 1 1, 3, 0), (85, .goto (-33), 3, 2), (88, .aload_n 0, 1, 0), (89, .dup, 1, 0), (90, .getfield 258, 3, 1), (93, .iconst 1, 1, 0), (94, .iadd, 1, 0), (95, .putfield 258, 3, 1)],
  [(98, .return_, 1, 6)]]
theorem nn_d316 : ab_dtok prog_14_method_112_code nn_dt316 = true := dw_ok (by decide +kernel)
def nn_dt317 : ab_DT := [[(0, .aload_n 0, 1, 0), (1, .iconst 0, 1, 0), (2, .putfield 100, 3, 1), (5, .aload_n 0, 1, 0), (6, .iload_n 1, 1, 0), (7, .invokevirtual 281, 3, 3), (10, .ifCond .eq 27, 3, 2), (13, .iload_n 2, 1, 0), (14, .iconst 0, 1, 0), (15, .bipush 9, 2, 0)],
  [(17, .invokestatic 171, 3, 3), (20, .ifCond .eq 17, 3, 2), (23, .aload_n 0, 1, 0), (24, .getfield 13, 3, 1), (27, .sipush 227, 3, 0), (30, .iload_n 1, 1, 0), (31, .iadd, 1, 0)],
  [(32, .iaload, 1, 1), (33, .iload_n 2, 1, 0), (34, .if_icmp .ne 5, 3, 2), (37, .iconst 0, 1, 0), (38, .ireturn, 1, 6), (39, .aload_n 0, 1, 0), (40, .invokevirtual 411, 3, 3), (43, .aload_n 0, 1, 0), (44, .getfield 13, 3, 1), (47, .sipush 227, 3, 0)],
  [(50, .iload_n 1, 1, 0), (51, .iadd, 1, 0), (52, .iload_n 2, 1, 0), (53, .iastore, 1, 1), (54, .iconst 1, 1, 0), (55, .ireturn, 1, 6)]]
theorem nn_d317 : ab_dtok prog_14_method_115_code nn_dt317 = true := dw_ok (by decide +kernel)
def nn_dt318 : ab_DT := [[(0, .aload_n 0, 1, 0), (1, .iconst 0, 1, 0), (2, .putfield 100, 3, 1), (5, .aload_n 0, 1, 0), (6, .iload_n 1, 1, 0), (7, .invokevirtual 281, 3, 3), (10, .ifCond .eq 11, 3, 2), (13, .aload_n 0, 1, 0), (14, .iload_n 2, 1, 0), (15, .invokevirtual 281, 3, 3)],
  [(18, .ifCond .ne 5, 3, 2), (21, .iconst (-1), 1, 0), (22, .ireturn, 1, 6), (23, .iconst 0, 1, 0), (24, .istore_n 3, 1, 0), (25, .iconst 0, 1, 0), (26, .istore 4, 2, 0), (28, .iload 4, 2, 0), (30, .aload_n 0, 1, 0), (31, .invokevirtual 261, 3, 3)],
  [(34, .if_icmp .ge 29, 3, 2), (37, .aload_n 0, 1, 0), (38, .iload_n 1, 1, 0), (39, .iload 4, 2, 0), (41, .invokevirtual 284, 3, 3), (44, .aload_n 0, 1, 0), (45, .iload_n 2, 1, 0), (46, .iload 4, 2, 0)],
  [(48, .invokevirtual 284, 3, 3), (51, .if_icmp .eq 6, 3, 2), (54, .iinc 3 1, 3, 0), (57, .iinc 4 1, 3, 0), (60, .goto (-32), 3, 2), (63, .iload_n 3, 1, 0)],
  [(64, .ifCond .ne 5, 3, 2), (67, .iconst 0, 1, 0), (68, .ireturn, 1, 6), (69, .aload_n 0, 1, 0), (70, .invokevirtual 411, 3, 3), (73, .iconst 0, 1, 0), (74, .istore 4, 2, 0), (76, .iload 4, 2, 0), (78, .aload_n 0, 1, 0), (79, .invokevirtual 261, 3, 3)],
  [(82, .if_icmp .ge 32, 3, 2), (85, .aload_n 0, 1, 0), (86, .getfield 13, 3, 1), (89, .sipush 182, 3, 0), (92, .bipush 9, 2, 0), (94, .iload_n 1, 1, 0), (95, .imul, 1, 0)],
  [(96, .iadd, 1, 0), (97, .iload 4, 2, 0), (99, .iadd, 1, 0), (100, .aload_n 0, 1, 0), (101, .iload_n 2, 1, 0), (102, .iload 4, 2, 0), (104, .invokevirtual 284, 3, 3), (107, .iastore, 1, 1), (108, .iinc 4 1, 3, 0), (111, .goto (-35), 3, 2)],
  [(114, .iload_n 3, 1, 0), (115, .ireturn, 1, 6)]]
theorem nn_d318 : ab_dtok prog_14_method_116_code nn_dt318 = true := dw_ok (by decide +kernel)
def nn_dt319 : ab_DT := [[(0, .iload_n 1, 1, 0), (1, .iload_n 2, 1, 0), (2, .iload_n 3, 1, 0), (3, .invokestatic 420, 3, 3), (6, .ifCond .eq 13, 3, 2), (9, .iload 4, 2, 0), (11, .iconst 0, 1, 0), (12, .iconst 1, 1, 0), (13, .invokestatic 171, 3, 3)],
  [(16, .ifCond .ne 8, 3, 2), (19, .aload_n 0, 1, 0), (20, .invokevirtual 345, 3, 3), (23, .lreturn, 1, 6), (24, .aload_n 0, 1, 0), (25, .iload_n 3, 1, 0), (26, .iconst (-1), 1, 0), (27, .invokevirtual 423, 3, 3), (30, .aload_n 0, 1, 0), (31, .aload_n 0, 1, 0)],
  [(32, .getfield 75, 3, 1), (35, .iconst 5, 1, 0), (36, .iload_n 1, 1, 0), (37, .imul, 1, 0), (38, .iload_n 2, 1, 0), (39, .iadd, 1, 0), (40, .laload, 1, 1), (41, .ldc2_w 414, 3, 0), (44, .iload 4, 2, 0), (46, .invokevirtual 351, 3, 3)],
  [(49, .lreturn, 1, 6)]]
theorem nn_d319 : ab_dtok prog_14_method_120_code nn_dt319 = true := dw_ok (by decide +kernel)
def nn_DT_280 : List ab_DT := [nn_dt280, nn_dt281, nn_dt282, nn_dt283, nn_dt284, nn_dt285, nn_dt286, nn_dt287, nn_dt288, nn_dt289, nn_dt290, nn_dt291, nn_dt292, nn_dt293, nn_dt294, nn_dt295, nn_dt296, nn_dt297, nn_dt298, nn_dt299, nn_dt300, nn_dt301, nn_dt302, nn_dt303, nn_dt304, nn_dt305, nn_dt306, nn_dt307, nn_dt308, nn_dt309, nn_dt310, nn_dt311, nn_dt312, nn_dt313, nn_dt314, nn_dt315, nn_dt316, nn_dt317, nn_dt318, nn_dt319]
theorem nn_DT_280_ok : ab_dtP nn_MT_280 nn_DT_280 := ⟨nn_d280, nn_d281, nn_d282, nn_d283, nn_d284, nn_d285, nn_d286, nn_d287, nn_d288, nn_d289, nn_d290, nn_d291, nn_d292, nn_d293, nn_d294, nn_d295, nn_d296, nn_d297, nn_d298, nn_d299, nn_d300, nn_d301, nn_d302, nn_d303, nn_d304, nn_d305, nn_d306, nn_d307, nn_d308, nn_d309, nn_d310, nn_d311, nn_d312, nn_d313, nn_d314, nn_d315, nn_d316, nn_d317, nn_d318, nn_d319, trivial⟩
