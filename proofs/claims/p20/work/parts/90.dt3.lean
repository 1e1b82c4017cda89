def nn_dt120 : ab_DT := [[(0, .aload_n 0, 1, 0), (1, .arraylength, 1, 1), (2, .iconst 1, 1, 0), (3, .ishr, 1, 0), (4, .ireturn, 1, 6)]]
theorem nn_d120 : ab_dtok prog_25_method_6_code nn_dt120 = true := dw_ok (by decide +kernel)
def nn_dt121 : ab_DT := [[(0, .getstatic 44, 3, 4), (3, .ifCond .ne 25, 3, 2), (6, .iload_n 1, 1, 0), (7, .ifCond .lt 11, 3, 2), (10, .iload_n 1, 1, 0), (11, .aload_n 0, 1, 0), (12, .invokestatic 48, 3, 3), (15, .if_icmp .lt 13, 3, 2)],
  [(18, .new 52, 3, 9), (21, .dup, 1, 0), (22, .ldc 54, 2, 5), (24, .invokespecial 56, 3, 9), (27, .athrow, 1, 9), (28, .iload_n 1, 1, 0), (29, .iconst 1, 1, 0), (30, .ishl, 1, 0), (31, .istore_n 1, 1, 0)],
  [(32, .aload_n 0, 1, 0), (33, .iload_n 1, 1, 0), (34, .iinc 1 1, 3, 0), (37, .baload, 1, 1), (38, .sipush 255, 3, 0), (41, .iand, 1, 0), (42, .getstatic 59, 3, 4), (45, .ishl, 1, 0), (46, .aload_n 0, 1, 0), (47, .iload_n 1, 1, 0)],
  [(48, .baload, 1, 1), (49, .sipush 255, 3, 0), (52, .iand, 1, 0), (53, .getstatic 63, 3, 4), (56, .ishl, 1, 0), (57, .ior, 1, 0), (58, .i2c, 1, 4), (59, .ireturn, 1, 6)]]
theorem nn_d121 : ab_dtok prog_25_method_5_code nn_dt121 = true := dw_ok (by decide +kernel)
def nn_dt122 : ab_DT := [[(0, .aload_n 0, 1, 0), (1, .getfield 9, 3, 1), (4, .aload_n 0, 1, 0), (5, .getfield 13, 3, 1), (8, .iload_n 1, 1, 0), (9, .invokestatic 17, 3, 3), (12, .aload_n 0, 1, 0), (13, .dup, 1, 0), (14, .getfield 13, 3, 1)],
  [(17, .iconst 1, 1, 0), (18, .iadd, 1, 0), (19, .putfield 13, 3, 1), (22, .return_, 1, 6)]]
theorem nn_d122 : ab_dtok prog_11_method_3_code nn_dt122 = true := dw_ok (by decide +kernel)
def nn_dt123 : ab_DT := [[(0, .bipush 30, 2, 0), (2, .istore_n 3, 1, 0), (3, .iload_n 3, 1, 0), (4, .ifCond .lt 33, 3, 2), (7, .lload_n 1, 1, 0), (8, .iload_n 3, 1, 0), (9, .lushr, 1, 0), (10, .ldc2_w 39, 3, 0), (13, .land, 1, 0), (14, .l2i, 1, 0), (15, .istore 4, 2, 0)],
  [(17, .iload 4, 2, 0), (19, .ifCond .le 12, 3, 2), (22, .aload_n 0, 1, 0), (23, .bipush 96, 2, 0), (25, .iload 4, 2, 0), (27, .iadd, 1, 0), (28, .invokevirtual 33, 3, 3), (31, .iinc 3 (-5), 3, 0)],
  [(34, .goto (-31), 3, 2), (37, .return_, 1, 6)]]
theorem nn_d123 : ab_dtok prog_11_method_5_code nn_dt123 = true := dw_ok (by decide +kernel)
def nn_dt124 : ab_DT := [[(0, .aload_n 0, 1, 0), (1, .getfield 83, 3, 1), (4, .aload_n 0, 1, 0), (5, .getfield 19, 3, 1), (8, .getfield 474, 3, 1), (11, .iload_n 1, 1, 0), (12, .invokestatic 293, 3, 3), (15, .invokevirtual 296, 3, 3)],
  [(18, .aload_n 0, 1, 0), (19, .getfield 83, 3, 1), (22, .bipush 32, 2, 0), (24, .invokevirtual 300, 3, 3), (27, .return_, 1, 6)]]
theorem nn_d124 : ab_dtok prog_1_method_68_code nn_dt124 = true := dw_ok (by decide +kernel)
def nn_dt125 : ab_DT := [[(0, .iload_n 1, 1, 0), (1, .bipush 10, 2, 0), (3, .if_icmp .lt 14, 3, 2), (6, .aload_n 0, 1, 0), (7, .bipush 48, 2, 0), (9, .iload_n 1, 1, 0), (10, .bipush 10, 2, 0), (12, .idiv, 1, 0), (13, .iadd, 1, 0), (14, .invokevirtual 33, 3, 3)],
  [(17, .aload_n 0, 1, 0), (18, .bipush 48, 2, 0), (20, .iload_n 1, 1, 0), (21, .bipush 10, 2, 0), (23, .irem, 1, 0), (24, .iadd, 1, 0), (25, .invokevirtual 33, 3, 3), (28, .return_, 1, 6)]]
theorem nn_d125 : ab_dtok prog_11_method_6_code nn_dt125 = true := dw_ok (by decide +kernel)
def nn_dt126 : ab_DT := [[(0, .iload_n 1, 1, 0), (1, .invokestatic 184, 3, 3), (4, .ifCond .eq 14, 3, 2), (7, .aload_n 0, 1, 0), (8, .getfield 19, 3, 1), (11, .iload_n 2, 1, 0), (12, .invokevirtual 166, 3, 3), (15, .ifCond .ne 5, 3, 2)],
  [(18, .iconst (-1), 1, 0), (19, .ireturn, 1, 6), (20, .iconst (-1), 1, 0), (21, .istore_n 3, 1, 0), (22, .ldc2_w 312, 3, 0), (25, .lstore 4, 2, 0), (27, .iconst 0, 1, 0), (28, .istore 6, 2, 0), (30, .iload 6, 2, 0)],
  [(32, .aload_n 0, 1, 0), (33, .getfield 19, 3, 1), (36, .getfield 314, 3, 1), (39, .if_icmp .ge 41, 3, 2), (42, .aload_n 0, 1, 0), (43, .iload 6, 2, 0), (45, .iload_n 1, 1, 0), (46, .aload_n 0, 1, 0), (47, .getfield 19, 3, 1)],
  [(50, .iload_n 2, 1, 0), (51, .invokevirtual 169, 3, 3), (54, .invokevirtual 228, 3, 3), (57, .lstore 7, 2, 0), (59, .lload 7, 2, 0), (61, .lload 4, 2, 0), (63, .lcmp, 1, 2)],
  [(64, .ifCond .le 10, 3, 2), (67, .iload 6, 2, 0), (69, .istore_n 3, 1, 0), (70, .lload 7, 2, 0), (72, .lstore 4, 2, 0), (74, .iinc 6 1, 3, 0), (77, .goto (-47), 3, 2)],
  [(80, .iload_n 3, 1, 0), (81, .ireturn, 1, 6)]]
theorem nn_d126 : ab_dtok prog_1_method_29_code nn_dt126 = true := dw_ok (by decide +kernel)
def nn_dt127 : ab_DT := [[(0, .iload_n 1, 1, 0), (1, .invokestatic 187, 3, 3), (4, .ifCond .eq 14, 3, 2), (7, .aload_n 0, 1, 0), (8, .getfield 19, 3, 1), (11, .iload_n 2, 1, 0), (12, .invokevirtual 166, 3, 3), (15, .ifCond .ne 5, 3, 2)],
  [(18, .iconst (-1), 1, 0), (19, .ireturn, 1, 6), (20, .aload_n 0, 1, 0), (21, .getfield 19, 3, 1), (24, .iload_n 2, 1, 0), (25, .invokevirtual 169, 3, 3), (28, .istore_n 3, 1, 0), (29, .iconst (-1), 1, 0), (30, .istore 4, 2, 0)],
  [(32, .iconst 0, 1, 0), (33, .istore 5, 2, 0), (35, .iconst 0, 1, 0), (36, .istore 6, 2, 0), (38, .iload 6, 2, 0), (40, .aload_n 0, 1, 0), (41, .getfield 19, 3, 1), (44, .getfield 317, 3, 1), (47, .if_icmp .ge 61, 3, 2)],
  [(50, .iload_n 3, 1, 0), (51, .iload 6, 2, 0), (53, .invokestatic 197, 3, 3), (56, .ifCond .eq 46, 3, 2), (59, .aload_n 0, 1, 0), (60, .getfield 19, 3, 1), (63, .iload 6, 2, 0)],
  [(65, .iload_n 1, 1, 0), (66, .iload_n 3, 1, 0), (67, .invokevirtual 203, 3, 3), (70, .istore 7, 2, 0), (72, .iload 7, 2, 0), (74, .iconst (-1), 1, 0), (75, .if_icmp .ne 8, 3, 2), (78, .bipush 10, 2, 0)],
  [(80, .goto 5, 3, 2), (83, .iload 7, 2, 0), (85, .istore 8, 2, 0), (87, .iload 8, 2, 0), (89, .iload 5, 2, 0), (91, .if_icmp .le 11, 3, 2), (94, .iload 6, 2, 0)],
  [(96, .istore 4, 2, 0), (98, .iload 8, 2, 0), (100, .istore 5, 2, 0), (102, .iinc 6 1, 3, 0), (105, .goto (-67), 3, 2), (108, .iload 4, 2, 0), (110, .ireturn, 1, 6)]]
theorem nn_d127 : ab_dtok prog_1_method_30_code nn_dt127 = true := dw_ok (by decide +kernel)
def nn_dt128 : ab_DT := [[(0, .aload_n 0, 1, 0), (1, .getfield 19, 3, 1), (4, .iload_n 1, 1, 0), (5, .invokevirtual 173, 3, 3), (8, .ifCond .eq 29, 3, 2), (11, .iload_n 2, 1, 0), (12, .invokestatic 184, 3, 3), (15, .ifCond .eq 22, 3, 2)],
  [(18, .aload_n 0, 1, 0), (19, .getfield 19, 3, 1), (22, .iload_n 3, 1, 0), (23, .invokevirtual 166, 3, 3), (26, .ifCond .eq 11, 3, 2), (29, .iload 4, 2, 0), (31, .invokestatic 232, 3, 3)],
  [(34, .ifCond .ne 5, 3, 2), (37, .iconst (-1), 1, 0), (38, .ireturn, 1, 6), (39, .aload_n 0, 1, 0), (40, .getfield 19, 3, 1), (43, .iload_n 3, 1, 0), (44, .invokevirtual 169, 3, 3), (47, .istore 5, 2, 0)],
  [(49, .iconst (-1), 1, 0), (50, .istore 6, 2, 0), (52, .ldc2_w 312, 3, 0), (55, .lstore 7, 2, 0), (57, .aload_n 0, 1, 0), (58, .getfield 55, 3, 1), (61, .aload_n 0, 1, 0), (62, .getfield 19, 3, 1)],
  [(65, .iload_n 2, 1, 0), (66, .iload 5, 2, 0), (68, .invokevirtual 320, 3, 3), (71, .iconst 0, 1, 0), (72, .istore 9, 2, 0), (74, .iload 9, 2, 0), (76, .iload 5, 2, 0), (78, .if_icmp .gt 86, 3, 2)],
  [(81, .iload 9, 2, 0), (83, .iload 5, 2, 0), (85, .iconst (-1), 1, 0), (86, .ixor, 1, 0), (87, .iand, 1, 0), (88, .ifCond .ne 70, 3, 2), (91, .iload 9, 2, 0), (93, .invokestatic 324, 3, 3)],
  [(96, .iload 4, 2, 0), (98, .if_icmp .gt 60, 3, 2), (101, .aload_n 0, 1, 0), (102, .getfield 55, 3, 1), (105, .aload_n 0, 1, 0), (106, .getfield 19, 3, 1), (109, .iload_n 1, 1, 0), (110, .iload 9, 2, 0)],
  [(112, .invokevirtual 329, 3, 3), (115, .aload_n 0, 1, 0), (116, .getfield 55, 3, 1), (119, .invokevirtual 332, 3, 3), (122, .lstore 10, 2, 0), (124, .lload 10, 2, 0), (126, .lload 7, 2, 0)],
  [(128, .lcmp, 1, 2), (129, .ifCond .gt 21, 3, 2), (132, .lload 10, 2, 0), (134, .lload 7, 2, 0), (136, .lcmp, 1, 2), (137, .ifCond .ne 21, 3, 2), (140, .iload 9, 2, 0), (142, .iload 6, 2, 0)],
  [(144, .invokestatic 336, 3, 3), (147, .ifCond .eq 11, 3, 2), (150, .iload 9, 2, 0), (152, .istore 6, 2, 0), (154, .lload 10, 2, 0), (156, .lstore 7, 2, 0), (158, .iinc 9 1, 3, 0)],
  [(161, .goto (-87), 3, 2), (164, .iload 6, 2, 0), (166, .ireturn, 1, 6)]]
theorem nn_d128 : ab_dtok prog_1_method_31_code nn_dt128 = true := dw_ok (by decide +kernel)
def nn_dt129 : ab_DT := [[(0, .iload_n 0, 1, 0), (1, .invokestatic 324, 3, 3), (4, .iload_n 1, 1, 0), (5, .invokestatic 324, 3, 3), (8, .if_icmp .ge 7, 3, 2), (11, .iconst 1, 1, 0), (12, .goto 4, 3, 2), (15, .iconst 0, 1, 0)],
  [(16, .ireturn, 1, 6)]]
theorem nn_d129 : ab_dtok prog_1_method_82_code nn_dt129 = true := dw_ok (by decide +kernel)
def nn_dt130 : ab_DT := [[(0, .aload_n 0, 1, 0), (1, .getfield 19, 3, 1), (4, .iload_n 1, 1, 0), (5, .invokevirtual 173, 3, 3), (8, .ifCond .eq 34, 3, 2), (11, .aload_n 0, 1, 0), (12, .getfield 19, 3, 1), (15, .iload_n 2, 1, 0)],
  [(16, .invokevirtual 157, 3, 3), (19, .ifCond .eq 23, 3, 2), (22, .iload_n 3, 1, 0), (23, .invokestatic 232, 3, 3), (26, .ifCond .eq 16, 3, 2), (29, .aload_n 0, 1, 0), (30, .getfield 19, 3, 1)],
  [(33, .iload_n 1, 1, 0), (34, .iload_n 2, 1, 0), (35, .invokevirtual 176, 3, 3), (38, .iload_n 3, 1, 0), (39, .if_icmp .ne 5, 3, 2), (42, .iconst 0, 1, 0), (43, .ireturn, 1, 6), (44, .aload_n 0, 1, 0), (45, .getfield 76, 3, 1)],
  [(48, .aload_n 0, 1, 0), (49, .getfield 19, 3, 1), (52, .iload_n 1, 1, 0), (53, .invokevirtual 339, 3, 3), (56, .aload_n 0, 1, 0), (57, .getfield 19, 3, 1), (60, .iload_n 1, 1, 0), (61, .iload_n 2, 1, 0), (62, .iload_n 3, 1, 0), (63, .invokevirtual 343, 3, 3)],
  [(66, .iconst 1, 1, 0), (67, .ireturn, 1, 6)]]
theorem nn_d130 : ab_dtok prog_1_method_32_code nn_dt130 = true := dw_ok (by decide +kernel)
def nn_dt131 : ab_DT := [[(0, .aload_n 0, 1, 0), (1, .getfield 15, 3, 1), (4, .bipush 8, 2, 0), (6, .if_icmp .lt 44, 3, 2), (9, .iconst 0, 1, 0), (10, .istore_n 3, 1, 0), (11, .iload_n 3, 1, 0), (12, .bipush 11, 2, 0), (14, .iadd, 1, 0), (15, .aload_n 0, 1, 0)],
  [(16, .getfield 11, 3, 1), (19, .arraylength, 1, 1), (20, .if_icmp .ge 24, 3, 2), (23, .aload_n 0, 1, 0), (24, .getfield 11, 3, 1), (27, .iload_n 3, 1, 0), (28, .aload_n 0, 1, 0), (29, .getfield 11, 3, 1)],
  [(32, .iload_n 3, 1, 0), (33, .bipush 11, 2, 0), (35, .iadd, 1, 0), (36, .iaload, 1, 1), (37, .iastore, 1, 1), (38, .iinc 3 1, 3, 0), (41, .goto (-30), 3, 2), (44, .aload_n 0, 1, 0), (45, .bipush 7, 2, 0), (47, .putfield 15, 3, 1)],
  [(50, .aload_n 0, 1, 0), (51, .getfield 15, 3, 1), (54, .bipush 11, 2, 0), (56, .imul, 1, 0), (57, .istore_n 3, 1, 0), (58, .iconst 0, 1, 0), (59, .istore 4, 2, 0), (61, .iload 4, 2, 0), (63, .bipush 9, 2, 0)],
  [(65, .if_icmp .ge 27, 3, 2), (68, .aload_n 0, 1, 0), (69, .getfield 11, 3, 1), (72, .iload_n 3, 1, 0), (73, .iload 4, 2, 0), (75, .iadd, 1, 0), (76, .aload_n 1, 1, 0), (77, .iload_n 2, 1, 0), (78, .iload 4, 2, 0)],
  [(80, .invokevirtual 19, 3, 3), (83, .invokestatic 25, 3, 3), (86, .iinc 4 1, 3, 0), (89, .goto (-28), 3, 2), (92, .aload_n 0, 1, 0), (93, .getfield 11, 3, 1)],
  [(96, .iload_n 3, 1, 0), (97, .bipush 9, 2, 0), (99, .iadd, 1, 0), (100, .aload_n 1, 1, 0), (101, .getfield 29, 3, 1), (104, .iload_n 2, 1, 0), (105, .invokestatic 32, 3, 3), (108, .invokestatic 25, 3, 3), (111, .aload_n 0, 1, 0)],
  [(112, .getfield 11, 3, 1), (115, .iload_n 3, 1, 0), (116, .bipush 9, 2, 0), (118, .iadd, 1, 0), (119, .iconst 1, 1, 0), (120, .iadd, 1, 0), (121, .iload_n 2, 1, 0), (122, .invokestatic 25, 3, 3), (125, .aload_n 0, 1, 0), (126, .dup, 1, 0), (127, .getfield 15, 3, 1)],
  [(130, .iconst 1, 1, 0), (131, .iadd, 1, 0), (132, .putfield 15, 3, 1), (135, .return_, 1, 6)]]
theorem nn_d131 : ab_dtok prog_5_method_2_code nn_dt131 = true := dw_ok (by decide +kernel)
def nn_dt132 : ab_DT := [[(0, .aload_n 0, 1, 0), (1, .getfield 19, 3, 1), (4, .iload_n 1, 1, 0), (5, .invokevirtual 173, 3, 3), (8, .ifCond .eq 25, 3, 2), (11, .iload_n 2, 1, 0), (12, .invokestatic 232, 3, 3), (15, .ifCond .eq 18, 3, 2)],
  [(18, .aload_n 0, 1, 0), (19, .getfield 19, 3, 1), (22, .getfield 179, 3, 1), (25, .iload_n 1, 1, 0), (26, .invokestatic 180, 3, 3), (29, .iload_n 2, 1, 0), (30, .if_icmp .ne 5, 3, 2)],
  [(33, .iconst 0, 1, 0), (34, .ireturn, 1, 6), (35, .aload_n 0, 1, 0), (36, .getfield 76, 3, 1), (39, .aload_n 0, 1, 0), (40, .getfield 19, 3, 1), (43, .iload_n 1, 1, 0), (44, .invokevirtual 339, 3, 3), (47, .aload_n 0, 1, 0)],
  [(48, .getfield 19, 3, 1), (51, .getfield 179, 3, 1), (54, .iload_n 1, 1, 0), (55, .iload_n 2, 1, 0), (56, .invokestatic 346, 3, 3), (59, .iconst 1, 1, 0), (60, .ireturn, 1, 6)]]
theorem nn_d132 : ab_dtok prog_1_method_33_code nn_dt132 = true := dw_ok (by decide +kernel)
def nn_dt133 : ab_DT := [[(0, .aload_n 0, 1, 0), (1, .getfield 76, 3, 1), (4, .getfield 135, 3, 1), (7, .iconst 1, 1, 0), (8, .if_icmp .ge 5, 3, 2), (11, .iconst (-1), 1, 0), (12, .ireturn, 1, 6), (13, .aload_n 0, 1, 0), (14, .getfield 76, 3, 1)],
  [(17, .aload_n 0, 1, 0), (18, .getfield 19, 3, 1), (21, .invokevirtual 350, 3, 3), (24, .aload_n 0, 1, 0), (25, .getfield 76, 3, 1), (28, .getfield 135, 3, 1), (31, .ireturn, 1, 6)]]
theorem nn_d133 : ab_dtok prog_1_method_34_code nn_dt133 = true := dw_ok (by decide +kernel)
def nn_dt134 : ab_DT := [[(0, .aload_n 0, 1, 0), (1, .dup, 1, 0), (2, .getfield 15, 3, 1), (5, .iconst 1, 1, 0), (6, .isub, 1, 0), (7, .putfield 15, 3, 1), (10, .aload_n 0, 1, 0), (11, .getfield 15, 3, 1), (14, .bipush 11, 2, 0)],
  [(16, .imul, 1, 0), (17, .istore_n 2, 1, 0), (18, .aload_n 0, 1, 0), (19, .getfield 11, 3, 1), (22, .iload_n 2, 1, 0), (23, .bipush 9, 2, 0), (25, .iadd, 1, 0), (26, .iconst 1, 1, 0), (27, .iadd, 1, 0), (28, .invokestatic 32, 3, 3), (31, .istore_n 3, 1, 0)],
  [(32, .iconst 0, 1, 0), (33, .istore 4, 2, 0), (35, .iload 4, 2, 0), (37, .bipush 9, 2, 0), (39, .if_icmp .ge 27, 3, 2), (42, .aload_n 1, 1, 0), (43, .iload_n 3, 1, 0), (44, .iload 4, 2, 0), (46, .aload_n 0, 1, 0), (47, .getfield 11, 3, 1)],
  [(50, .iload_n 2, 1, 0), (51, .iload 4, 2, 0), (53, .iadd, 1, 0), (54, .invokestatic 32, 3, 3), (57, .invokevirtual 36, 3, 3), (60, .iinc 4 1, 3, 0), (63, .goto (-28), 3, 2)],
  [(66, .aload_n 1, 1, 0), (67, .getfield 29, 3, 1), (70, .iload_n 3, 1, 0), (71, .aload_n 0, 1, 0), (72, .getfield 11, 3, 1), (75, .iload_n 2, 1, 0), (76, .bipush 9, 2, 0), (78, .iadd, 1, 0), (79, .invokestatic 32, 3, 3)],
  [(82, .invokestatic 25, 3, 3), (85, .return_, 1, 6)]]
theorem nn_d134 : ab_dtok prog_5_method_3_code nn_dt134 = true := dw_ok (by decide +kernel)
def nn_dt135 : ab_DT := [[(0, .iload_n 1, 1, 0), (1, .invokestatic 353, 3, 3), (4, .ifCond .eq 25, 3, 2), (7, .iload_n 2, 1, 0), (8, .invokestatic 353, 3, 3), (11, .ifCond .eq 18, 3, 2), (14, .iload_n 3, 1, 0), (15, .invokestatic 232, 3, 3)],
  [(18, .ifCond .eq 11, 3, 2), (21, .iload 4, 2, 0), (23, .invokestatic 232, 3, 3), (26, .ifCond .ne 5, 3, 2), (29, .iconst (-1), 1, 0), (30, .ireturn, 1, 6), (31, .aload_n 0, 1, 0)],
  [(32, .iload_n 3, 1, 0), (33, .iload 4, 2, 0), (35, .iconst 1, 1, 0), (36, .invokevirtual 356, 3, 3), (39, .aload_n 0, 1, 0), (40, .getfield 94, 3, 1), (43, .iload_n 1, 1, 0), (44, .iconst 3, 1, 0), (45, .imul, 1, 0), (46, .iload_n 2, 1, 0), (47, .iadd, 1, 0)],
  [(48, .invokestatic 180, 3, 3), (51, .ireturn, 1, 6)]]
theorem nn_d135 : ab_dtok prog_1_method_36_code nn_dt135 = true := dw_ok (by decide +kernel)
def nn_dt136 : ab_DT := [[(0, .iload_n 0, 1, 0), (1, .ifCond .lt 12, 3, 2), (4, .iload_n 0, 1, 0), (5, .iconst 3, 1, 0), (6, .if_icmp .ge 7, 3, 2), (9, .iconst 1, 1, 0), (10, .goto 4, 3, 2), (13, .iconst 0, 1, 0), (14, .ireturn, 1, 6)]]
theorem nn_d136 : ab_dtok prog_1_method_76_code nn_dt136 = true := dw_ok (by decide +kernel)
def nn_dt137 : ab_DT := [[(0, .iconst 2, 1, 0), (1, .istore 4, 2, 0), (3, .iload 4, 2, 0), (5, .ifCond .lt 157, 3, 2), (8, .iconst 2, 1, 0), (9, .istore 5, 2, 0), (11, .iload 5, 2, 0), (13, .ifCond .lt 143, 3, 2)],
  [(16, .iload_n 1, 1, 0), (17, .aload_n 0, 1, 0), (18, .iload 4, 2, 0), (20, .iconst 1, 1, 0), (21, .iadd, 1, 0), (22, .iload 5, 2, 0), (24, .invokevirtual 360, 3, 3), (27, .imul, 1, 0), (28, .bipush 9, 2, 0), (30, .iload_n 1, 1, 0), (31, .isub, 1, 0)],
  [(32, .aload_n 0, 1, 0), (33, .iload 4, 2, 0), (35, .iload 5, 2, 0), (37, .iconst 1, 1, 0), (38, .iadd, 1, 0), (39, .invokevirtual 360, 3, 3), (42, .imul, 1, 0), (43, .iadd, 1, 0), (44, .bipush 9, 2, 0), (46, .idiv, 1, 0), (47, .istore 6, 2, 0)],
  [(49, .iload_n 2, 1, 0), (50, .aload_n 0, 1, 0), (51, .iload 4, 2, 0), (53, .iconst 2, 1, 0), (54, .iadd, 1, 0), (55, .iload 5, 2, 0), (57, .invokevirtual 360, 3, 3), (60, .imul, 1, 0), (61, .bipush 9, 2, 0), (63, .iload_n 2, 1, 0)],
  [(64, .isub, 1, 0), (65, .aload_n 0, 1, 0), (66, .iload 4, 2, 0), (68, .iload 5, 2, 0), (70, .iconst 2, 1, 0), (71, .iadd, 1, 0), (72, .invokevirtual 360, 3, 3), (75, .imul, 1, 0), (76, .iadd, 1, 0), (77, .bipush 9, 2, 0), (79, .idiv, 1, 0)],
  [(80, .istore 7, 2, 0), (82, .iload_n 3, 1, 0), (83, .ifCond .eq 14, 3, 2), (86, .iload 7, 2, 0), (88, .iload 6, 2, 0), (90, .if_icmp .le 7, 3, 2), (93, .iconst 1, 1, 0), (94, .goto 4, 3, 2)],
  [(97, .iconst 0, 1, 0), (98, .istore 8, 2, 0), (100, .aload_n 0, 1, 0), (101, .getfield 91, 3, 1), (104, .iload 4, 2, 0), (106, .iconst 3, 1, 0), (107, .imul, 1, 0), (108, .iload 5, 2, 0), (110, .iadd, 1, 0), (111, .iload 8, 2, 0)],
  [(113, .ifCond .eq 8, 3, 2), (116, .iload 7, 2, 0), (118, .goto 5, 3, 2), (121, .iload 6, 2, 0), (123, .invokestatic 346, 3, 3), (126, .aload_n 0, 1, 0), (127, .getfield 94, 3, 1)],
  [(130, .iload 4, 2, 0), (132, .iconst 3, 1, 0), (133, .imul, 1, 0), (134, .iload 5, 2, 0), (136, .iadd, 1, 0), (137, .iload 8, 2, 0), (139, .ifCond .eq 7, 3, 2), (142, .iconst 1, 1, 0), (143, .goto 4, 3, 2)],
  [(146, .iconst 0, 1, 0), (147, .invokestatic 346, 3, 3), (150, .iinc 5 (-1), 3, 0), (153, .goto (-142), 3, 2), (156, .iinc 4 (-1), 3, 0), (159, .goto (-156), 3, 2)],
  [(162, .return_, 1, 6)]]
theorem nn_d137 : ab_dtok prog_1_method_69_code nn_dt137 = true := dw_ok (by decide +kernel)
def nn_dt138 : ab_DT := [[(0, .iload_n 1, 1, 0), (1, .iconst 3, 1, 0), (2, .if_icmp .lt 7, 3, 2), (5, .ldc_w 477, 3, 0), (8, .ireturn, 1, 6), (9, .iload_n 2, 1, 0), (10, .iconst 3, 1, 0), (11, .if_icmp .lt 7, 3, 2), (14, .iconst 0, 1, 0), (15, .goto 15, 3, 2)],
  [(18, .aload_n 0, 1, 0), (19, .getfield 91, 3, 1), (22, .iload_n 1, 1, 0), (23, .iconst 3, 1, 0), (24, .imul, 1, 0), (25, .iload_n 2, 1, 0), (26, .iadd, 1, 0), (27, .invokestatic 180, 3, 3), (30, .ireturn, 1, 6)]]
theorem nn_d138 : ab_dtok prog_1_method_70_code nn_dt138 = true := dw_ok (by decide +kernel)
def nn_dt139 : ab_DT := [[(0, .aload_n 0, 1, 0), (1, .getfield 19, 3, 1), (4, .iload_n 1, 1, 0), (5, .invokevirtual 173, 3, 3), (8, .ifCond .eq 29, 3, 2), (11, .iload_n 2, 1, 0), (12, .invokestatic 184, 3, 3), (15, .ifCond .eq 22, 3, 2)],
  [(18, .aload_n 0, 1, 0), (19, .getfield 19, 3, 1), (22, .iload_n 3, 1, 0), (23, .invokevirtual 166, 3, 3), (26, .ifCond .eq 11, 3, 2), (29, .iload 4, 2, 0), (31, .invokestatic 232, 3, 3)],
  [(34, .ifCond .ne 5, 3, 2), (37, .iconst (-1), 1, 0), (38, .ireturn, 1, 6), (39, .aload_n 0, 1, 0), (40, .getfield 19, 3, 1), (43, .iload_n 3, 1, 0), (44, .invokevirtual 169, 3, 3), (47, .istore 5, 2, 0)],
  [(49, .iconst (-1), 1, 0), (50, .istore 6, 2, 0), (52, .aload_n 0, 1, 0), (53, .getfield 55, 3, 1), (56, .aload_n 0, 1, 0), (57, .getfield 19, 3, 1), (60, .iload_n 2, 1, 0), (61, .iload 5, 2, 0), (63, .invokevirtual 320, 3, 3)],
  [(66, .iconst 0, 1, 0), (67, .istore 7, 2, 0), (69, .iload 7, 2, 0), (71, .iload 5, 2, 0), (73, .if_icmp .gt 68, 3, 2), (76, .iload 7, 2, 0), (78, .iload 5, 2, 0)],
  [(80, .iconst (-1), 1, 0), (81, .ixor, 1, 0), (82, .iand, 1, 0), (83, .ifCond .ne 52, 3, 2), (86, .iload 6, 2, 0), (88, .iconst (-1), 1, 0), (89, .if_icmp .eq 13, 3, 2), (92, .iload 7, 2, 0), (94, .iload 6, 2, 0)],
  [(96, .invokestatic 336, 3, 3), (99, .ifCond .eq 36, 3, 2), (102, .aload_n 0, 1, 0), (103, .getfield 55, 3, 1), (106, .aload_n 0, 1, 0), (107, .getfield 19, 3, 1), (110, .iload_n 1, 1, 0), (111, .iload 7, 2, 0)],
  [(113, .invokevirtual 329, 3, 3), (116, .aload_n 0, 1, 0), (117, .getfield 55, 3, 1), (120, .invokevirtual 332, 3, 3), (123, .iload 4, 2, 0), (125, .invokestatic 235, 3, 3)],
  [(128, .ifCond .eq 7, 3, 2), (131, .iload 7, 2, 0), (133, .istore 6, 2, 0), (135, .iinc 7 1, 3, 0), (138, .goto (-69), 3, 2), (141, .iload 6, 2, 0), (143, .ireturn, 1, 6)]]
theorem nn_d139 : ab_dtok prog_1_method_38_code nn_dt139 = true := dw_ok (by decide +kernel)
def nn_dt140 : ab_DT := [[(0, .aload_n 0, 1, 0), (1, .getfield 19, 3, 1), (4, .iload_n 1, 1, 0), (5, .invokevirtual 173, 3, 3), (8, .ifCond .eq 14, 3, 2), (11, .aload_n 0, 1, 0), (12, .getfield 19, 3, 1), (15, .iload_n 2, 1, 0)],
  [(16, .invokevirtual 173, 3, 3), (19, .ifCond .ne 5, 3, 2), (22, .iconst (-1), 1, 0), (23, .ireturn, 1, 6), (24, .iconst 0, 1, 0), (25, .istore_n 3, 1, 0), (26, .iconst 0, 1, 0), (27, .istore 4, 2, 0), (29, .iload 4, 2, 0), (31, .aload_n 0, 1, 0)],
  [(32, .getfield 19, 3, 1), (35, .getfield 317, 3, 1), (38, .if_icmp .ge 35, 3, 2), (41, .aload_n 0, 1, 0), (42, .getfield 19, 3, 1), (45, .iload_n 1, 1, 0), (46, .iload 4, 2, 0)],
  [(48, .invokevirtual 176, 3, 3), (51, .aload_n 0, 1, 0), (52, .getfield 19, 3, 1), (55, .iload_n 2, 1, 0), (56, .iload 4, 2, 0), (58, .invokevirtual 176, 3, 3), (61, .if_icmp .eq 6, 3, 2)],
  [(64, .iinc 3 1, 3, 0), (67, .iinc 4 1, 3, 0), (70, .goto (-41), 3, 2), (73, .iload_n 3, 1, 0), (74, .ifCond .le 56, 3, 2), (77, .aload_n 0, 1, 0), (78, .getfield 76, 3, 1)],
  [(81, .aload_n 0, 1, 0), (82, .getfield 19, 3, 1), (85, .iload_n 1, 1, 0), (86, .invokevirtual 339, 3, 3), (89, .iconst 0, 1, 0), (90, .istore 4, 2, 0), (92, .iload 4, 2, 0), (94, .aload_n 0, 1, 0), (95, .getfield 19, 3, 1)],
  [(98, .getfield 317, 3, 1), (101, .if_icmp .ge 29, 3, 2), (104, .aload_n 0, 1, 0), (105, .getfield 19, 3, 1), (108, .iload_n 1, 1, 0), (109, .iload 4, 2, 0), (111, .aload_n 0, 1, 0)],
  [(112, .getfield 19, 3, 1), (115, .iload_n 2, 1, 0), (116, .iload 4, 2, 0), (118, .invokevirtual 176, 3, 3), (121, .invokevirtual 343, 3, 3), (124, .iinc 4 1, 3, 0), (127, .goto (-35), 3, 2)],
  [(130, .iload_n 3, 1, 0), (131, .ireturn, 1, 6)]]
theorem nn_d140 : ab_dtok prog_1_method_39_code nn_dt140 = true := dw_ok (by decide +kernel)
def nn_dt141 : ab_DT := [[(0, .iload_n 1, 1, 0), (1, .invokestatic 184, 3, 3), (4, .ifCond .eq 27, 3, 2), (7, .iload_n 2, 1, 0), (8, .invokestatic 187, 3, 3), (11, .ifCond .eq 20, 3, 2), (14, .aload_n 0, 1, 0), (15, .getfield 19, 3, 1)],
  [(18, .iload_n 3, 1, 0), (19, .invokevirtual 190, 3, 3), (22, .ifCond .eq 9, 3, 2), (25, .iload 4, 2, 0), (27, .iconst (-1), 1, 0), (28, .if_icmp .ge 5, 3, 2), (31, .iconst (-1), 1, 0)],
  [(32, .ireturn, 1, 6), (33, .aload_n 0, 1, 0), (34, .getfield 19, 3, 1), (37, .iload_n 3, 1, 0), (38, .invokevirtual 169, 3, 3), (41, .istore 5, 2, 0), (43, .iconst 0, 1, 0), (44, .istore 6, 2, 0), (46, .iconst 0, 1, 0), (47, .istore 7, 2, 0)],
  [(49, .iload 7, 2, 0), (51, .aload_n 0, 1, 0), (52, .getfield 19, 3, 1), (55, .getfield 317, 3, 1), (58, .if_icmp .ge 91, 3, 2), (61, .iload 5, 2, 0), (63, .iload 7, 2, 0)],
  [(65, .invokestatic 197, 3, 3), (68, .ifCond .eq 19, 3, 2), (71, .aload_n 0, 1, 0), (72, .getfield 19, 3, 1), (75, .iload 7, 2, 0), (77, .iload_n 1, 1, 0), (78, .iload_n 2, 1, 0), (79, .iload 5, 2, 0)],
  [(81, .invokevirtual 193, 3, 3), (84, .goto 4, 3, 2), (87, .iconst 0, 1, 0), (88, .istore 8, 2, 0), (90, .iload 7, 2, 0), (92, .iconst 1, 1, 0), (93, .iadd, 1, 0), (94, .istore 9, 2, 0)],
  [(96, .iload 9, 2, 0), (98, .aload_n 0, 1, 0), (99, .getfield 19, 3, 1), (102, .getfield 317, 3, 1), (105, .if_icmp .ge 38, 3, 2), (108, .iload 8, 2, 0), (110, .iload 9, 2, 0)],
  [(112, .invokestatic 197, 3, 3), (115, .ifCond .eq 22, 3, 2), (118, .iload 6, 2, 0), (120, .iload 4, 2, 0), (122, .if_icmp .ne 12, 3, 2), (125, .bipush 10, 2, 0), (127, .iload 7, 2, 0)],
  [(129, .imul, 1, 0), (130, .iload 9, 2, 0), (132, .iadd, 1, 0), (133, .ireturn, 1, 6), (134, .iinc 6 1, 3, 0), (137, .iinc 9 1, 3, 0), (140, .goto (-44), 3, 2), (143, .iinc 7 1, 3, 0)],
  [(146, .goto (-97), 3, 2), (149, .iload 4, 2, 0), (151, .iconst (-1), 1, 0), (152, .if_icmp .ne 8, 3, 2), (155, .iload 6, 2, 0), (157, .goto 4, 3, 2)],
  [(160, .iconst (-1), 1, 0), (161, .ireturn, 1, 6)]]
theorem nn_d141 : ab_dtok prog_1_method_40_code nn_dt141 = true := dw_ok (by decide +kernel)
def nn_dt142 : ab_DT := [[(0, .aload_n 0, 1, 0), (1, .getfield 19, 3, 1), (4, .iload_n 1, 1, 0), (5, .invokevirtual 157, 3, 3), (8, .ifCond .eq 21, 3, 2), (11, .aload_n 0, 1, 0), (12, .getfield 19, 3, 1), (15, .iload_n 2, 1, 0)],
  [(16, .invokevirtual 157, 3, 3), (19, .ifCond .eq 10, 3, 2), (22, .iload_n 3, 1, 0), (23, .invokestatic 187, 3, 3), (26, .ifCond .ne 5, 3, 2), (29, .iconst (-1), 1, 0), (30, .ireturn, 1, 6), (31, .aload_n 0, 1, 0)],
  [(32, .getfield 19, 3, 1), (35, .iload_n 1, 1, 0), (36, .iload_n 2, 1, 0), (37, .iload_n 3, 1, 0), (38, .invokevirtual 365, 3, 3), (41, .ireturn, 1, 6)]]
theorem nn_d142 : ab_dtok prog_1_method_41_code nn_dt142 = true := dw_ok (by decide +kernel)
def nn_dt143 : ab_DT := [[(0, .aload_n 0, 1, 0), (1, .getfield 19, 3, 1), (4, .iload_n 1, 1, 0), (5, .invokevirtual 157, 3, 3), (8, .ifCond .eq 23, 3, 2), (11, .aload_n 0, 1, 0), (12, .getfield 19, 3, 1), (15, .iload_n 2, 1, 0)],
  [(16, .invokevirtual 157, 3, 3), (19, .ifCond .eq 12, 3, 2), (22, .aload_n 0, 1, 0), (23, .iload_n 1, 1, 0), (24, .iload_n 2, 1, 0), (25, .invokevirtual 368, 3, 3), (28, .goto 4, 3, 2), (31, .iconst (-1), 1, 0)],
  [(32, .ireturn, 1, 6)]]
theorem nn_d143 : ab_dtok prog_1_method_42_code nn_dt143 = true := dw_ok (by decide +kernel)
def nn_dt144 : ab_DT := [[(0, .bipush 10, 2, 0), (2, .istore_n 3, 1, 0), (3, .aload_n 0, 1, 0), (4, .getfield 19, 3, 1), (7, .getfield 427, 3, 1), (10, .iload_n 1, 1, 0), (11, .invokestatic 180, 3, 3), (14, .istore 4, 2, 0)],
  [(16, .aload_n 0, 1, 0), (17, .getfield 19, 3, 1), (20, .getfield 427, 3, 1), (23, .iload_n 2, 1, 0), (24, .invokestatic 180, 3, 3), (27, .istore 5, 2, 0), (29, .iconst 0, 1, 0), (30, .istore 6, 2, 0)],
  [(32, .iload 6, 2, 0), (34, .iload 4, 2, 0), (36, .if_icmp .gt 165, 3, 2), (39, .iconst 0, 1, 0), (40, .istore 7, 2, 0), (42, .iload 7, 2, 0), (44, .iload 5, 2, 0), (46, .if_icmp .gt 149, 3, 2)],
  [(49, .iload 6, 2, 0), (51, .ifCond .ne 8, 3, 2), (54, .iload 7, 2, 0), (56, .goto 5, 3, 2), (59, .iload 6, 2, 0), (61, .istore 8, 2, 0), (63, .iload 6, 2, 0)],
  [(65, .ifCond .le 108, 3, 2), (68, .iload 7, 2, 0), (70, .ifCond .le 103, 3, 2), (73, .aload_n 0, 1, 0), (74, .getfield 19, 3, 1), (77, .iload_n 1, 1, 0), (78, .iload 6, 2, 0)],
  [(80, .iconst 1, 1, 0), (81, .isub, 1, 0), (82, .iload_n 2, 1, 0), (83, .iload 7, 2, 0), (85, .iconst 1, 1, 0), (86, .isub, 1, 0), (87, .invokevirtual 478, 3, 3), (90, .ifCond .eq 7, 3, 2), (93, .iconst 0, 1, 0), (94, .goto 4, 3, 2)],
  [(97, .iconst 1, 1, 0), (98, .istore 9, 2, 0), (100, .aload_n 0, 1, 0), (101, .getfield 87, 3, 1), (104, .iload 6, 2, 0), (106, .iconst 1, 1, 0), (107, .isub, 1, 0), (108, .iload_n 3, 1, 0), (109, .imul, 1, 0), (110, .iload 7, 2, 0)],
  [(112, .iadd, 1, 0), (113, .iconst 1, 1, 0), (114, .isub, 1, 0), (115, .invokestatic 180, 3, 3), (118, .iload 9, 2, 0), (120, .iadd, 1, 0), (121, .istore 8, 2, 0), (123, .iload 8, 2, 0), (125, .aload_n 0, 1, 0), (126, .getfield 87, 3, 1)],
  [(129, .iload 6, 2, 0), (131, .iconst 1, 1, 0), (132, .isub, 1, 0), (133, .iload_n 3, 1, 0), (134, .imul, 1, 0), (135, .iload 7, 2, 0), (137, .iadd, 1, 0), (138, .invokestatic 180, 3, 3), (141, .iconst 1, 1, 0), (142, .iadd, 1, 0), (143, .invokestatic 481, 3, 3)],
  [(146, .istore 8, 2, 0), (148, .iload 8, 2, 0), (150, .aload_n 0, 1, 0), (151, .getfield 87, 3, 1), (154, .iload 6, 2, 0), (156, .iload_n 3, 1, 0), (157, .imul, 1, 0), (158, .iload 7, 2, 0)],
  [(160, .iadd, 1, 0), (161, .iconst 1, 1, 0), (162, .isub, 1, 0), (163, .invokestatic 180, 3, 3), (166, .iconst 1, 1, 0), (167, .iadd, 1, 0), (168, .invokestatic 481, 3, 3), (171, .istore 8, 2, 0), (173, .aload_n 0, 1, 0), (174, .getfield 87, 3, 1)],
  [(177, .iload 6, 2, 0), (179, .iload_n 3, 1, 0), (180, .imul, 1, 0), (181, .iload 7, 2, 0), (183, .iadd, 1, 0), (184, .iload 8, 2, 0), (186, .invokestatic 346, 3, 3), (189, .iinc 7 1, 3, 0)],
  [(192, .goto (-150), 3, 2), (195, .iinc 6 1, 3, 0), (198, .goto (-166), 3, 2), (201, .aload_n 0, 1, 0), (202, .getfield 87, 3, 1), (205, .iload 4, 2, 0), (207, .iload_n 3, 1, 0)],
  [(208, .imul, 1, 0), (209, .iload 5, 2, 0), (211, .iadd, 1, 0), (212, .invokestatic 180, 3, 3), (215, .ireturn, 1, 6)]]
theorem nn_d144 : ab_dtok prog_1_method_71_code nn_dt144 = true := dw_ok (by decide +kernel)
def nn_dt145 : ab_DT := [[(0, .aload_n 0, 1, 0), (1, .iload_n 1, 1, 0), (2, .iload_n 2, 1, 0), (3, .invokevirtual 103, 3, 3), (6, .aload_n 0, 1, 0), (7, .iload_n 3, 1, 0), (8, .iload 4, 2, 0), (10, .invokevirtual 103, 3, 3), (13, .if_icmp .ne 23, 3, 2)],
  [(16, .aload_n 0, 1, 0), (17, .iload_n 1, 1, 0), (18, .iload_n 2, 1, 0), (19, .invokevirtual 115, 3, 3), (22, .aload_n 0, 1, 0), (23, .iload_n 3, 1, 0), (24, .iload 4, 2, 0), (26, .invokevirtual 115, 3, 3), (29, .if_icmp .ne 7, 3, 2)],
  [(32, .iconst 1, 1, 0), (33, .goto 4, 3, 2), (36, .iconst 0, 1, 0), (37, .ireturn, 1, 6)]]
theorem nn_d145 : ab_dtok prog_8_method_18_code nn_dt145 = true := dw_ok (by decide +kernel)
def nn_dt146 : ab_DT := [[(0, .aload_n 0, 1, 0), (1, .getfield 19, 3, 1), (4, .iload_n 1, 1, 0), (5, .invokevirtual 157, 3, 3), (8, .ifCond .eq 14, 3, 2), (11, .aload_n 0, 1, 0), (12, .getfield 19, 3, 1), (15, .iload_n 2, 1, 0)],
  [(16, .invokevirtual 190, 3, 3), (19, .ifCond .ne 5, 3, 2), (22, .iconst (-1), 1, 0), (23, .ireturn, 1, 6), (24, .aload_n 0, 1, 0), (25, .getfield 19, 3, 1), (28, .iload_n 2, 1, 0), (29, .invokevirtual 169, 3, 3)],
  [(32, .istore_n 3, 1, 0), (33, .iconst (-1), 1, 0), (34, .istore 4, 2, 0), (36, .iconst 0, 1, 0), (37, .istore 5, 2, 0), (39, .iconst 0, 1, 0), (40, .istore 6, 2, 0), (42, .iload 6, 2, 0), (44, .aload_n 0, 1, 0), (45, .getfield 19, 3, 1)],
  [(48, .getfield 317, 3, 1), (51, .if_icmp .ge 54, 3, 2), (54, .iload 6, 2, 0), (56, .iload_n 1, 1, 0), (57, .if_icmp .eq 42, 3, 2), (60, .iload_n 3, 1, 0), (61, .iload 6, 2, 0), (63, .invokestatic 197, 3, 3)],
  [(66, .ifCond .eq 33, 3, 2), (69, .aload_n 0, 1, 0), (70, .iload_n 1, 1, 0), (71, .iload 6, 2, 0), (73, .invokevirtual 368, 3, 3), (76, .istore 7, 2, 0), (78, .iload 4, 2, 0)],
  [(80, .iconst (-1), 1, 0), (81, .if_icmp .eq 10, 3, 2), (84, .iload 7, 2, 0), (86, .iload 5, 2, 0), (88, .if_icmp .ge 11, 3, 2), (91, .iload 6, 2, 0), (93, .istore 4, 2, 0), (95, .iload 7, 2, 0)],
  [(97, .istore 5, 2, 0), (99, .iinc 6 1, 3, 0), (102, .goto (-60), 3, 2), (105, .iload 4, 2, 0), (107, .ireturn, 1, 6)]]
theorem nn_d146 : ab_dtok prog_1_method_43_code nn_dt146 = true := dw_ok (by decide +kernel)
def nn_dt147 : ab_DT := [[(0, .iload_n 2, 1, 0), (1, .invokestatic 160, 3, 3), (4, .ifCond .ne 5, 3, 2), (7, .iconst (-1), 1, 0), (8, .ireturn, 1, 6), (9, .iconst 0, 1, 0), (10, .istore_n 3, 1, 0), (11, .iload_n 3, 1, 0), (12, .aload_n 0, 1, 0), (13, .getfield 19, 3, 1)],
  [(16, .getfield 317, 3, 1), (19, .if_icmp .ge 84, 3, 2), (22, .iconst 0, 1, 0), (23, .istore 4, 2, 0), (25, .iconst 0, 1, 0), (26, .istore 5, 2, 0), (28, .iload 5, 2, 0), (30, .aload_n 0, 1, 0), (31, .getfield 19, 3, 1)],
  [(34, .getfield 317, 3, 1), (37, .if_icmp .ge 52, 3, 2), (40, .aload_n 0, 1, 0), (41, .getfield 19, 3, 1), (44, .iload 5, 2, 0), (46, .iload_n 2, 1, 0), (47, .invokevirtual 163, 3, 3)],
  [(50, .aload_n 0, 1, 0), (51, .getfield 19, 3, 1), (54, .iload_n 3, 1, 0), (55, .iload_n 2, 1, 0), (56, .invokevirtual 163, 3, 3), (59, .invokestatic 371, 3, 3), (62, .istore 6, 2, 0)],
  [(64, .iload 6, 2, 0), (66, .ifCond .lt 14, 3, 2), (69, .iload 6, 2, 0), (71, .ifCond .ne 12, 3, 2), (74, .iload 5, 2, 0), (76, .iload_n 3, 1, 0), (77, .if_icmp .ge 6, 3, 2)],
  [(80, .iinc 4 1, 3, 0), (83, .iinc 5 1, 3, 0), (86, .goto (-58), 3, 2), (89, .iload 4, 2, 0), (91, .iload_n 1, 1, 0), (92, .if_icmp .ne 5, 3, 2), (95, .iload_n 3, 1, 0)],
  [(96, .ireturn, 1, 6), (97, .iinc 3 1, 3, 0), (100, .goto (-89), 3, 2), (103, .iconst (-1), 1, 0), (104, .ireturn, 1, 6)]]
theorem nn_d147 : ab_dtok prog_1_method_44_code nn_dt147 = true := dw_ok (by decide +kernel)
def nn_dt148 : ab_DT := [[(0, .iload_n 0, 1, 0), (1, .iload_n 1, 1, 0), (2, .if_icmp .ge 7, 3, 2), (5, .iconst (-1), 1, 0), (6, .goto 13, 3, 2), (9, .iload_n 0, 1, 0), (10, .iload_n 1, 1, 0), (11, .if_icmp .ne 7, 3, 2), (14, .iconst 0, 1, 0), (15, .goto 4, 3, 2)],
  [(18, .iconst 1, 1, 0), (19, .ireturn, 1, 6)]]
theorem nn_d148 : ab_dtok prog_20_method_40_code nn_dt148 = true := dw_ok (by decide +kernel)
def nn_dt149 : ab_DT := [[(0, .iconst (-1), 1, 0), (1, .istore_n 1, 1, 0), (2, .iconst 0, 1, 0), (3, .istore_n 2, 1, 0), (4, .iconst 0, 1, 0), (5, .istore_n 3, 1, 0), (6, .iload_n 3, 1, 0), (7, .bipush 24, 2, 0), (9, .if_icmp .gt 30, 3, 2), (12, .aload_n 0, 1, 0), (13, .getfield 19, 3, 1)],
  [(16, .iload_n 3, 1, 0), (17, .invokevirtual 374, 3, 3), (20, .istore 4, 2, 0), (22, .iload 4, 2, 0), (24, .iload_n 2, 1, 0), (25, .if_icmp .le 8, 3, 2), (28, .iload_n 3, 1, 0), (29, .istore_n 1, 1, 0), (30, .iload 4, 2, 0)],
  [(32, .istore_n 2, 1, 0), (33, .iinc 3 1, 3, 0), (36, .goto (-30), 3, 2), (39, .iload_n 1, 1, 0), (40, .ireturn, 1, 6)]]
theorem nn_d149 : ab_dtok prog_1_method_45_code nn_dt149 = true := dw_ok (by decide +kernel)
def nn_dt150 : ab_DT := [[(0, .iconst 0, 1, 0), (1, .istore_n 2, 1, 0), (2, .iconst 0, 1, 0), (3, .istore_n 3, 1, 0), (4, .iload_n 3, 1, 0), (5, .aload_n 0, 1, 0), (6, .getfield 54, 3, 1), (9, .if_icmp .ge 50, 3, 2), (12, .iconst 0, 1, 0), (13, .istore 4, 2, 0), (15, .iload 4, 2, 0)],
  [(17, .aload_n 0, 1, 0), (18, .getfield 18, 3, 1), (21, .iload_n 3, 1, 0), (22, .invokestatic 92, 3, 3), (25, .if_icmp .ge 28, 3, 2), (28, .iload_n 2, 1, 0), (29, .aload_n 0, 1, 0), (30, .iload_n 3, 1, 0), (31, .iload 4, 2, 0)],
  [(33, .invokevirtual 103, 3, 3), (36, .iload_n 1, 1, 0), (37, .if_icmp .ne 7, 3, 2), (40, .iconst 1, 1, 0), (41, .goto 4, 3, 2), (44, .iconst 0, 1, 0), (45, .iadd, 1, 0), (46, .istore_n 2, 1, 0), (47, .iinc 4 1, 3, 0)],
  [(50, .goto (-35), 3, 2), (53, .iinc 3 1, 3, 0), (56, .goto (-52), 3, 2), (59, .iload_n 2, 1, 0), (60, .ireturn, 1, 6)]]
theorem nn_d150 : ab_dtok prog_8_method_16_code nn_dt150 = true := dw_ok (by decide +kernel)
def nn_dt151 : ab_DT := [[(0, .iconst (-1), 1, 0), (1, .istore_n 1, 1, 0), (2, .iconst 0, 1, 0), (3, .istore_n 2, 1, 0), (4, .iload_n 2, 1, 0), (5, .iconst 1, 1, 0), (6, .aload_n 0, 1, 0), (7, .getfield 19, 3, 1), (10, .getfield 269, 3, 1), (13, .ishl, 1, 0), (14, .if_icmp .ge 83, 3, 2)],
  [(17, .iconst 0, 1, 0), (18, .istore_n 3, 1, 0), (19, .iconst 0, 1, 0), (20, .istore 4, 2, 0), (22, .iload 4, 2, 0), (24, .aload_n 0, 1, 0), (25, .getfield 19, 3, 1), (28, .getfield 269, 3, 1), (31, .if_icmp .ge 34, 3, 2)],
  [(34, .iload_n 3, 1, 0), (35, .iload_n 2, 1, 0), (36, .iload 4, 2, 0), (38, .invokestatic 197, 3, 3), (41, .ifCond .eq 15, 3, 2), (44, .aload_n 0, 1, 0), (45, .getfield 19, 3, 1)],
  [(48, .iload 4, 2, 0), (50, .invokevirtual 169, 3, 3), (53, .goto 4, 3, 2), (56, .iconst 0, 1, 0), (57, .ior, 1, 0), (58, .istore_n 3, 1, 0), (59, .iinc 4 1, 3, 0), (62, .goto (-40), 3, 2)],
  [(65, .iload_n 3, 1, 0), (66, .aload_n 0, 1, 0), (67, .getfield 19, 3, 1), (70, .invokevirtual 262, 3, 3), (73, .if_icmp .ne 18, 3, 2), (76, .iload_n 1, 1, 0), (77, .iconst (-1), 1, 0), (78, .if_icmp .eq 11, 3, 2)],
  [(81, .iload_n 2, 1, 0), (82, .iload_n 1, 1, 0), (83, .invokestatic 336, 3, 3), (86, .ifCond .eq 5, 3, 2), (89, .iload_n 2, 1, 0), (90, .istore_n 1, 1, 0), (91, .iinc 2 1, 3, 0), (94, .goto (-90), 3, 2)],
  [(97, .iload_n 1, 1, 0), (98, .ireturn, 1, 6)]]
theorem nn_d151 : ab_dtok prog_1_method_46_code nn_dt151 = true := dw_ok (by decide +kernel)
def nn_dt152 : ab_DT := [[(0, .aload_n 0, 1, 0), (1, .getfield 48, 3, 1), (4, .aload_n 0, 1, 0), (5, .getfield 10, 3, 1), (8, .aload_n 0, 1, 0), (9, .getfield 19, 3, 1), (12, .invokevirtual 377, 3, 3), (15, .istore_n 1, 1, 0)],
  [(16, .aload_n 0, 1, 0), (17, .getfield 10, 3, 1), (20, .iconst 0, 1, 0), (21, .putfield 116, 3, 1), (24, .iload_n 1, 1, 0), (25, .ifCond .eq 17, 3, 2), (28, .aload_n 0, 1, 0), (29, .getfield 48, 3, 1)],
  [(32, .aload_n 0, 1, 0), (33, .getfield 19, 3, 1), (36, .invokevirtual 380, 3, 3), (39, .goto 13, 3, 2), (42, .bipush (-2), 2, 0), (44, .aload_n 0, 1, 0), (45, .getfield 10, 3, 1)],
  [(48, .getfield 122, 3, 1), (51, .isub, 1, 0), (52, .ireturn, 1, 6)]]
theorem nn_d152 : ab_dtok prog_1_method_47_code nn_dt152 = true := dw_ok (by decide +kernel)
def nn_dt153 : ab_DT := [[(0, .aload_n 0, 1, 0), (1, .iconst 0, 1, 0), (2, .putfield 21, 3, 1), (5, .aload_n 1, 1, 0), (6, .sipush 400, 3, 0), (9, .invokevirtual 25, 3, 3), (12, .aload_n 1, 1, 0), (13, .getstatic 31, 3, 4)],
  [(16, .invokevirtual 37, 3, 3), (19, .ifCond .ne 9, 3, 2), (22, .aload_n 1, 1, 0), (23, .iconst 1, 1, 0), (24, .invokevirtual 41, 3, 3), (27, .ireturn, 1, 6), (28, .aload_n 1, 1, 0), (29, .invokevirtual 45, 3, 3)],
  [(32, .aload_n 0, 1, 0), (33, .aload_n 1, 1, 0), (34, .aload_n 2, 1, 0), (35, .getfield 48, 3, 1), (38, .aload_n 2, 1, 0), (39, .getfield 54, 3, 1), (42, .invokevirtual 57, 3, 3), (45, .putfield 61, 3, 1)],
  [(48, .aload_n 0, 1, 0), (49, .getfield 61, 3, 1), (52, .iconst (-1), 1, 0), (53, .if_icmp .ne 5, 3, 2), (56, .iconst 0, 1, 0), (57, .ireturn, 1, 6), (58, .aload_n 1, 1, 0), (59, .invokevirtual 45, 3, 3), (62, .aload_n 1, 1, 0), (63, .bipush 59, 2, 0)],
  [(65, .invokevirtual 64, 3, 3), (68, .istore_n 3, 1, 0), (69, .iconst 0, 1, 0), (70, .istore 4, 2, 0), (72, .iload 4, 2, 0), (74, .sipush 400, 3, 0), (77, .if_icmp .ge 44, 3, 2)],
  [(80, .iload_n 3, 1, 0), (81, .ifCond .eq 40, 3, 2), (84, .aload_n 1, 1, 0), (85, .getfield 67, 3, 1), (88, .ifCond .eq 33, 3, 2), (91, .aload_n 0, 1, 0), (92, .aload_n 1, 1, 0), (93, .aload_n 2, 1, 0), (94, .invokevirtual 70, 3, 3)],
  [(97, .ifCond .eq 16, 3, 2), (100, .aload_n 1, 1, 0), (101, .bipush 59, 2, 0), (103, .invokevirtual 64, 3, 3), (106, .ifCond .eq 7, 3, 2), (109, .iconst 1, 1, 0), (110, .goto 4, 3, 2)],
  [(113, .iconst 0, 1, 0), (114, .istore_n 3, 1, 0), (115, .iinc 4 1, 3, 0), (118, .goto (-46), 3, 2), (121, .iload_n 3, 1, 0), (122, .ireturn, 1, 6)]]
theorem nn_d153 : ab_dtok prog_4_method_2_code nn_dt153 = true := dw_ok (by decide +kernel)
def nn_dt154 : ab_DT := [[(0, .aload_n 1, 1, 0), (1, .aload_n 2, 1, 0), (2, .getfield 74, 3, 1), (5, .aload_n 2, 1, 0), (6, .getfield 77, 3, 1), (9, .invokevirtual 57, 3, 3), (12, .istore_n 3, 1, 0), (13, .iload_n 3, 1, 0), (14, .iconst (-1), 1, 0), (15, .if_icmp .ne 5, 3, 2)],
  [(18, .iconst 0, 1, 0), (19, .ireturn, 1, 6), (20, .aload_n 1, 1, 0), (21, .invokevirtual 45, 3, 3), (24, .aload_n 1, 1, 0), (25, .getstatic 80, 3, 4), (28, .invokevirtual 37, 3, 3), (31, .istore 4, 2, 0)],
  [(33, .iload 4, 2, 0), (35, .ifCond .ne 15, 3, 2), (38, .aload_n 1, 1, 0), (39, .iconst 1, 1, 0), (40, .bipush 9, 2, 0), (42, .invokevirtual 83, 3, 3), (45, .ifCond .ne 5, 3, 2)],
  [(48, .iconst 0, 1, 0), (49, .ireturn, 1, 6), (50, .aload_n 0, 1, 0), (51, .getfield 11, 3, 1), (54, .aload_n 0, 1, 0), (55, .getfield 21, 3, 1), (58, .iload_n 3, 1, 0), (59, .invokestatic 87, 3, 3), (62, .aload_n 0, 1, 0), (63, .getfield 15, 3, 1)],
  [(66, .aload_n 0, 1, 0), (67, .getfield 21, 3, 1), (70, .iload 4, 2, 0), (72, .ifCond .eq 7, 3, 2), (75, .iconst 0, 1, 0), (76, .goto 7, 3, 2), (79, .aload_n 1, 1, 0)],
  [(80, .getfield 91, 3, 1), (83, .invokestatic 87, 3, 3), (86, .aload_n 0, 1, 0), (87, .dup, 1, 0), (88, .getfield 21, 3, 1), (91, .iconst 1, 1, 0), (92, .iadd, 1, 0), (93, .putfield 21, 3, 1)],
  [(96, .aload_n 1, 1, 0), (97, .invokevirtual 45, 3, 3), (100, .iconst 1, 1, 0), (101, .ireturn, 1, 6)]]
theorem nn_d154 : ab_dtok prog_4_method_3_code nn_dt154 = true := dw_ok (by decide +kernel)
def nn_dt155 : ab_DT := [[(0, .aload_n 0, 1, 0), (1, .iconst 1, 1, 0), (2, .putfield 94, 3, 1), (5, .aload_n 0, 1, 0), (6, .aload_n 0, 1, 0), (7, .getfield 61, 3, 1), (10, .putfield 98, 3, 1), (13, .aload_n 0, 1, 0), (14, .aload_n 1, 1, 0), (15, .getfield 101, 3, 1)],
  [(18, .putfield 104, 3, 1), (21, .aload_n 0, 1, 0), (22, .getfield 18, 3, 1), (25, .iconst 0, 1, 0), (26, .iconst 0, 1, 0), (27, .iastore, 1, 1), (28, .aload_n 0, 1, 0), (29, .getfield 18, 3, 1)],
  [(32, .iconst 1, 1, 0), (33, .iconst 0, 1, 0), (34, .iastore, 1, 1), (35, .aload_n 0, 1, 0), (36, .getfield 18, 3, 1), (39, .iconst 2, 1, 0), (40, .iconst (-1), 1, 0), (41, .iastore, 1, 1), (42, .aload_n 0, 1, 0), (43, .getfield 18, 3, 1), (46, .iconst 3, 1, 0), (47, .iconst (-1), 1, 0)],
  [(48, .iastore, 1, 1), (49, .aload_n 0, 1, 0), (50, .getfield 18, 3, 1), (53, .iconst 4, 1, 0), (54, .iconst (-1), 1, 0), (55, .iastore, 1, 1), (56, .iconst (-1), 1, 0), (57, .istore_n 2, 1, 0), (58, .iconst 0, 1, 0), (59, .istore_n 3, 1, 0), (60, .iload_n 3, 1, 0), (61, .aload_n 0, 1, 0), (62, .getfield 21, 3, 1)],
  [(65, .if_icmp .ge 109, 3, 2), (68, .aload_n 0, 1, 0), (69, .getfield 11, 3, 1), (72, .iload_n 3, 1, 0), (73, .invokestatic 105, 3, 3), (76, .istore 4, 2, 0), (78, .aload_n 0, 1, 0), (79, .getfield 15, 3, 1)],
  [(82, .iload_n 3, 1, 0), (83, .invokestatic 105, 3, 3), (86, .istore 5, 2, 0), (88, .aload_n 0, 1, 0), (89, .getfield 18, 3, 1), (92, .iconst 0, 1, 0), (93, .aload_n 0, 1, 0), (94, .iload 4, 2, 0)],
  [(96, .iload 5, 2, 0), (98, .aload_n 1, 1, 0), (99, .getfield 109, 3, 1), (102, .invokevirtual 112, 3, 3), (105, .iastore, 1, 1), (106, .aload_n 0, 1, 0), (107, .getfield 18, 3, 1), (110, .iconst 0, 1, 0), (111, .iaload, 1, 1)],
  [(112, .ifCond .eq 7, 3, 2), (115, .iload_n 3, 1, 0), (116, .iconst 1, 1, 0), (117, .iadd, 1, 0), (118, .ireturn, 1, 6), (119, .iload 5, 2, 0), (121, .ifCond .ne 21, 3, 2), (124, .aload_n 0, 1, 0), (125, .getfield 18, 3, 1)],
  [(128, .iconst 3, 1, 0), (129, .iload 4, 2, 0), (131, .iastore, 1, 1), (132, .aload_n 0, 1, 0), (133, .getfield 18, 3, 1), (136, .iconst 4, 1, 0), (137, .iconst (-1), 1, 0), (138, .iastore, 1, 1), (139, .goto 29, 3, 2), (142, .aload_n 0, 1, 0), (143, .getfield 18, 3, 1)],
  [(146, .iconst 1, 1, 0), (147, .iload 5, 2, 0), (149, .iastore, 1, 1), (150, .aload_n 0, 1, 0), (151, .getfield 18, 3, 1), (154, .iconst 2, 1, 0), (155, .iload 4, 2, 0), (157, .iastore, 1, 1), (158, .aload_n 0, 1, 0), (159, .getfield 18, 3, 1)],
  [(162, .iconst 4, 1, 0), (163, .iload_n 2, 1, 0), (164, .iastore, 1, 1), (165, .iload 4, 2, 0), (167, .istore_n 2, 1, 0), (168, .iinc 3 1, 3, 0), (171, .goto (-111), 3, 2), (174, .iconst (-1), 1, 0), (175, .ireturn, 1, 6)]]
theorem nn_d155 : ab_dtok prog_4_method_4_code nn_dt155 = true := dw_ok (by decide +kernel)
def nn_dt156 : ab_DT := [[(0, .aload_n 0, 1, 0), (1, .getfield 18, 3, 1), (4, .iconst 3, 1, 0), (5, .iaload, 1, 1), (6, .iconst (-1), 1, 0), (7, .if_icmp .eq 5, 3, 2), (10, .iconst 1, 1, 0), (11, .ireturn, 1, 6), (12, .aload_n 0, 1, 0), (13, .getfield 18, 3, 1)],
  [(16, .iconst 4, 1, 0), (17, .iaload, 1, 1), (18, .iconst (-1), 1, 0), (19, .if_icmp .ne 21, 3, 2), (22, .iload_n 1, 1, 0), (23, .aload_n 0, 1, 0), (24, .getfield 18, 3, 1), (27, .iconst 2, 1, 0), (28, .iaload, 1, 1), (29, .if_icmp .ne 7, 3, 2)],
  [(32, .iconst 1, 1, 0), (33, .goto 22, 3, 2), (36, .iconst 0, 1, 0), (37, .goto 18, 3, 2), (40, .iload_n 1, 1, 0), (41, .aload_n 0, 1, 0), (42, .getfield 18, 3, 1), (45, .iconst 4, 1, 0), (46, .iaload, 1, 1), (47, .if_icmp .eq 7, 3, 2)],
  [(50, .iconst 1, 1, 0), (51, .goto 4, 3, 2), (54, .iconst 0, 1, 0), (55, .istore 4, 2, 0), (57, .iload 4, 2, 0), (59, .ifCond .eq 5, 3, 2), (62, .iconst 2, 1, 0), (63, .ireturn, 1, 6)],
  [(64, .iload_n 2, 1, 0), (65, .ifCond .ne 18, 3, 2), (68, .aload_n 0, 1, 0), (69, .getfield 18, 3, 1), (72, .iconst 1, 1, 0), (73, .iaload, 1, 1), (74, .ifCond .ne 7, 3, 2), (77, .iconst 4, 1, 0), (78, .goto 4, 3, 2)],
  [(81, .iconst 0, 1, 0), (82, .ireturn, 1, 6), (83, .aload_n 0, 1, 0), (84, .getfield 18, 3, 1), (87, .iconst 1, 1, 0), (88, .iaload, 1, 1), (89, .ifCond .ne 16, 3, 2), (92, .iload_n 2, 1, 0), (93, .iload_n 3, 1, 0), (94, .if_icmp .le 7, 3, 2)],
  [(97, .iconst 1, 1, 0), (98, .goto 22, 3, 2), (101, .iconst 0, 1, 0), (102, .goto 18, 3, 2), (105, .iload_n 2, 1, 0), (106, .aload_n 0, 1, 0), (107, .getfield 18, 3, 1), (110, .iconst 1, 1, 0), (111, .iaload, 1, 1)],
  [(112, .if_icmp .lt 7, 3, 2), (115, .iconst 1, 1, 0), (116, .goto 4, 3, 2), (119, .iconst 0, 1, 0), (120, .istore 5, 2, 0), (122, .iload 5, 2, 0), (124, .ifCond .eq 7, 3, 2), (127, .iconst 3, 1, 0)],
  [(128, .goto 4, 3, 2), (131, .iconst 0, 1, 0), (132, .ireturn, 1, 6)]]
theorem nn_d156 : ab_dtok prog_4_method_5_code nn_dt156 = true := dw_ok (by decide +kernel)
def nn_dt157 : ab_DT := [[(0, .aload_n 0, 1, 0), (1, .getfield 48, 3, 1), (4, .getfield 384, 3, 1), (7, .ifCond .eq 31, 3, 2), (10, .iload_n 1, 1, 0), (11, .ifCond .lt 27, 3, 2), (14, .iload_n 1, 1, 0), (15, .aload_n 0, 1, 0)],
  [(16, .getfield 48, 3, 1), (19, .getfield 387, 3, 1), (22, .arraylength, 1, 1), (23, .if_icmp .ge 15, 3, 2), (26, .aload_n 0, 1, 0), (27, .getfield 48, 3, 1), (30, .getfield 387, 3, 1)],
  [(33, .iload_n 1, 1, 0), (34, .iaload, 1, 1), (35, .goto 4, 3, 2), (38, .iconst (-1), 1, 0), (39, .ireturn, 1, 6)]]
theorem nn_d157 : ab_dtok prog_1_method_48_code nn_dt157 = true := dw_ok (by decide +kernel)
def nn_dt158 : ab_DT := [[(0, .aload_n 0, 1, 0), (1, .iload_n 1, 1, 0), (2, .iload_n 2, 1, 0), (3, .invokevirtual 405, 3, 3), (6, .ifCond .ne 6, 3, 2), (9, .bipush (-2), 2, 0), (11, .ireturn, 1, 6), (12, .aload_n 0, 1, 0), (13, .getfield 69, 3, 1)],
  [(16, .aload_n 0, 1, 0), (17, .getfield 19, 3, 1), (20, .iload_n 1, 1, 0), (21, .iload_n 2, 1, 0), (22, .iload_n 3, 1, 0), (23, .invokevirtual 408, 3, 3), (26, .aload_n 0, 1, 0), (27, .iconst 1, 1, 0), (28, .putfield 100, 3, 1), (31, .aload_n 0, 1, 0)],
  [(32, .getfield 97, 3, 1), (35, .iconst 0, 1, 0), (36, .aload_n 0, 1, 0), (37, .getfield 69, 3, 1), (40, .getfield 412, 3, 1), (43, .iastore, 1, 1), (44, .aload_n 0, 1, 0), (45, .getfield 97, 3, 1)],
  [(48, .iconst 1, 1, 0), (49, .aload_n 0, 1, 0), (50, .getfield 69, 3, 1), (53, .getfield 415, 3, 1), (56, .iconst 0, 1, 0), (57, .iaload, 1, 1), (58, .iastore, 1, 1), (59, .aload_n 0, 1, 0), (60, .getfield 97, 3, 1), (63, .iconst 2, 1, 0)],
  [(64, .aload_n 0, 1, 0), (65, .getfield 69, 3, 1), (68, .getfield 415, 3, 1), (71, .iconst 1, 1, 0), (72, .iaload, 1, 1), (73, .iastore, 1, 1), (74, .aload_n 0, 1, 0), (75, .getfield 97, 3, 1), (78, .iconst 3, 1, 0), (79, .aload_n 0, 1, 0)],
  [(80, .getfield 69, 3, 1), (83, .getfield 418, 3, 1), (86, .iastore, 1, 1), (87, .aload_n 0, 1, 0), (88, .getfield 97, 3, 1), (91, .iconst 4, 1, 0), (92, .aload_n 0, 1, 0), (93, .getfield 69, 3, 1)],
  [(96, .getfield 421, 3, 1), (99, .iastore, 1, 1), (100, .aload_n 0, 1, 0), (101, .getfield 69, 3, 1), (104, .invokevirtual 424, 3, 3), (107, .ifCond .eq 7, 3, 2), (110, .iconst 1, 1, 0), (111, .goto 4, 3, 2)],
  [(114, .iconst (-1), 1, 0), (115, .ireturn, 1, 6)]]
theorem nn_d158 : ab_dtok prog_1_method_50_code nn_dt158 = true := dw_ok (by decide +kernel)
def nn_dt159 : ab_DT := [[(0, .aload_n 0, 1, 0), (1, .getfield 19, 3, 1), (4, .iload_n 1, 1, 0), (5, .invokevirtual 173, 3, 3), (8, .ifCond .eq 33, 3, 2), (11, .aload_n 0, 1, 0), (12, .getfield 19, 3, 1), (15, .iload_n 2, 1, 0)],
  [(16, .invokevirtual 173, 3, 3), (19, .ifCond .eq 22, 3, 2), (22, .iload_n 1, 1, 0), (23, .iload_n 2, 1, 0), (24, .if_icmp .eq 17, 3, 2), (27, .aload_n 0, 1, 0), (28, .getfield 19, 3, 1), (31, .getfield 269, 3, 1)],
  [(34, .ifCond .le 7, 3, 2), (37, .iconst 1, 1, 0), (38, .goto 4, 3, 2), (41, .iconst 0, 1, 0), (42, .ireturn, 1, 6)]]
theorem nn_d159 : ab_dtok prog_1_method_63_code nn_dt159 = true := dw_ok (by decide +kernel)
def nn_DT_120 : List ab_DT := [nn_dt120, nn_dt121, nn_dt122, nn_dt123, nn_dt124, nn_dt125, nn_dt126, nn_dt127, nn_dt128, nn_dt129, nn_dt130, nn_dt131, nn_dt132, nn_dt133, nn_dt134, nn_dt135, nn_dt136, nn_dt137, nn_dt138, nn_dt139, nn_dt140, nn_dt141, nn_dt142, nn_dt143, nn_dt144, nn_dt145, nn_dt146, nn_dt147, nn_dt148, nn_dt149, nn_dt150, nn_dt151, nn_dt152, nn_dt153, nn_dt154, nn_dt155, nn_dt156, nn_dt157, nn_dt158, nn_dt159]
theorem nn_DT_120_ok : ab_dtP nn_MT_120 nn_DT_120 := ⟨nn_d120, nn_d121, nn_d122, nn_d123, nn_d124, nn_d125, nn_d126, nn_d127, nn_d128, nn_d129, nn_d130, nn_d131, nn_d132, nn_d133, nn_d134, nn_d135, nn_d136, nn_d137, nn_d138, nn_d139, nn_d140, nn_d141, nn_d142, nn_d143, nn_d144, nn_d145, nn_d146, nn_d147, nn_d148, nn_d149, nn_d150, nn_d151, nn_d152, nn_d153, nn_d154, nn_d155, nn_d156, nn_d157, nn_d158, nn_d159, trivial⟩
