section
def nn_dt320 : ab_DT := [[(0, .iload_n 0, 1, 0), (1, .iconst 0, 1, 0), (2, .iconst 2, 1, 0), (3, .invokestatic 171, 3, 3), (6, .ifCond .eq 26, 3, 2), (9, .iload_n 1, 1, 0), (10, .iconst 0, 1, 0), (11, .iconst 2, 1, 0), (12, .invokestatic 171, 3, 3), (15, .ifCond .eq 17, 3, 2)],
  [(18, .iload_n 2, 1, 0), (19, .iconst 0, 1, 0), (20, .bipush 9, 2, 0), (22, .invokestatic 171, 3, 3), (25, .ifCond .eq 7, 3, 2), (28, .iconst 1, 1, 0), (29, .goto 4, 3, 2)],
  [(32, .iconst 0, 1, 0), (33, .ireturn, 1, 6)]]
theorem nn_d320 : ab_dtok prog_14_method_119_code nn_dt320 = true := dw_ok (by decide +kernel)
def nn_dt321 : ab_DT := [[(0, .iconst 4, 1, 0), (1, .istore_n 3, 1, 0), (2, .iload_n 3, 1, 0), (3, .ifCond .lt 197, 3, 2), (6, .iconst 0, 1, 0), (7, .istore 4, 2, 0), (9, .iload 4, 2, 0), (11, .iconst 3, 1, 0), (12, .if_icmp .ge 182, 3, 2), (15, .iload_n 3, 1, 0)],
  [(16, .iload 4, 2, 0), (18, .isub, 1, 0), (19, .istore 5, 2, 0), (21, .iload 5, 2, 0), (23, .iconst 0, 1, 0), (24, .iconst 2, 1, 0), (25, .invokestatic 171, 3, 3), (28, .ifCond .ne 6, 3, 2), (31, .goto 157, 3, 2)],
  [(34, .aload_n 0, 1, 0), (35, .getfield 75, 3, 1), (38, .iload 4, 2, 0), (40, .iconst 1, 1, 0), (41, .iadd, 1, 0), (42, .iload 5, 2, 0), (44, .invokestatic 416, 3, 3), (47, .ldc2_w 327, 3, 0)],
  [(50, .ldiv, 1, 0), (51, .iload_n 1, 1, 0), (52, .i2l, 1, 0), (53, .lmul, 1, 0), (54, .aload_n 0, 1, 0), (55, .getfield 75, 3, 1), (58, .iload 4, 2, 0), (60, .iload 5, 2, 0), (62, .iconst 1, 1, 0), (63, .iadd, 1, 0)],
  [(64, .invokestatic 416, 3, 3), (67, .ldc2_w 327, 3, 0), (70, .ldiv, 1, 0), (71, .bipush 9, 2, 0), (73, .iload_n 1, 1, 0), (74, .isub, 1, 0), (75, .i2l, 1, 0), (76, .lmul, 1, 0), (77, .ladd, 1, 0), (78, .lstore 6, 2, 0)],
  [(80, .iload_n 2, 1, 0), (81, .ifCond .ge 9, 3, 2), (84, .ldc2_w 366, 3, 0), (87, .goto 47, 3, 2), (90, .aload_n 0, 1, 0), (91, .getfield 75, 3, 1), (94, .iload 4, 2, 0)],
  [(96, .iconst 2, 1, 0), (97, .iadd, 1, 0), (98, .iload 5, 2, 0), (100, .invokestatic 416, 3, 3), (103, .ldc2_w 327, 3, 0), (106, .ldiv, 1, 0), (107, .iload_n 2, 1, 0), (108, .i2l, 1, 0), (109, .lmul, 1, 0), (110, .aload_n 0, 1, 0), (111, .getfield 75, 3, 1)],
  [(114, .iload 4, 2, 0), (116, .iload 5, 2, 0), (118, .iconst 2, 1, 0), (119, .iadd, 1, 0), (120, .invokestatic 416, 3, 3), (123, .ldc2_w 327, 3, 0), (126, .ldiv, 1, 0), (127, .bipush 9, 2, 0)],
  [(129, .iload_n 2, 1, 0), (130, .isub, 1, 0), (131, .i2l, 1, 0), (132, .lmul, 1, 0), (133, .ladd, 1, 0), (134, .lstore 8, 2, 0), (136, .aload_n 0, 1, 0), (137, .getfield 78, 3, 1), (140, .iconst 5, 1, 0), (141, .iload 4, 2, 0), (143, .imul, 1, 0)],
  [(144, .iload 5, 2, 0), (146, .iadd, 1, 0), (147, .lload 8, 2, 0), (149, .lload 6, 2, 0), (151, .lcmp, 1, 2), (152, .ifCond .le 7, 3, 2), (155, .iconst 1, 1, 0), (156, .goto 4, 3, 2), (159, .iconst 0, 1, 0)],
  [(160, .iastore, 1, 1), (161, .aload_n 0, 1, 0), (162, .getfield 75, 3, 1), (165, .iconst 5, 1, 0), (166, .iload 4, 2, 0), (168, .imul, 1, 0), (169, .iload 5, 2, 0), (171, .iadd, 1, 0), (172, .lload 8, 2, 0), (174, .lload 6, 2, 0)],
  [(176, .lcmp, 1, 2), (177, .ifCond .le 8, 3, 2), (180, .lload 8, 2, 0), (182, .goto 5, 3, 2), (185, .lload 6, 2, 0), (187, .lastore, 1, 1), (188, .iinc 4 1, 3, 0), (191, .goto (-182), 3, 2)],
  [(194, .iinc 3 (-1), 3, 0), (197, .goto (-195), 3, 2), (200, .return_, 1, 6)]]
theorem nn_d321 : ab_dtok prog_14_method_118_code nn_dt321 = true := dw_ok (by decide +kernel)
def nn_dt322 : ab_DT := [[(0, .iload_n 1, 1, 0), (1, .iconst 3, 1, 0), (2, .if_icmp .lt 9, 3, 2), (5, .ldc2_w 414, 3, 0), (8, .goto 19, 3, 2), (11, .iload_n 2, 1, 0), (12, .iconst 3, 1, 0), (13, .if_icmp .lt 7, 3, 2)],
  [(16, .lconst 0, 1, 0), (17, .goto 10, 3, 2), (20, .aload_n 0, 1, 0), (21, .iconst 5, 1, 0), (22, .iload_n 1, 1, 0), (23, .imul, 1, 0), (24, .iload_n 2, 1, 0), (25, .iadd, 1, 0), (26, .laload, 1, 1), (27, .lreturn, 1, 6)]]
theorem nn_d322 : ab_dtok prog_14_method_117_code nn_dt322 = true := dw_ok (by decide +kernel)
def nn_dt323 : ab_DT := [[(0, .aload_n 0, 1, 0), (1, .iconst 0, 1, 0), (2, .putfield 100, 3, 1), (5, .iload_n 1, 1, 0), (6, .iload_n 2, 1, 0), (7, .iload_n 3, 1, 0), (8, .invokestatic 420, 3, 3), (11, .ifCond .eq 14, 3, 2), (14, .iload 4, 2, 0)],
  [(16, .iconst 0, 1, 0), (17, .bipush 9, 2, 0), (19, .invokestatic 171, 3, 3), (22, .ifCond .ne 5, 3, 2), (25, .iconst (-1), 1, 0), (26, .ireturn, 1, 6), (27, .aload_n 0, 1, 0), (28, .iload_n 3, 1, 0), (29, .iload 4, 2, 0), (31, .invokevirtual 423, 3, 3)],
  [(34, .aload_n 0, 1, 0), (35, .getfield 78, 3, 1), (38, .iconst 5, 1, 0), (39, .iload_n 1, 1, 0), (40, .imul, 1, 0), (41, .iload_n 2, 1, 0), (42, .iadd, 1, 0), (43, .iaload, 1, 1), (44, .ireturn, 1, 6)]]
theorem nn_d323 : ab_dtok prog_14_method_121_code nn_dt323 = true := dw_ok (by decide +kernel)
def nn_dt324 : ab_DT := [[(0, .iload_n 1, 1, 0), (1, .iload_n 2, 1, 0), (2, .iload_n 3, 1, 0), (3, .invokestatic 420, 3, 3), (6, .ifCond .eq 24, 3, 2), (9, .iload 4, 2, 0), (11, .iconst 0, 1, 0), (12, .bipush 9, 2, 0), (14, .invokestatic 171, 3, 3)],
  [(17, .ifCond .eq 13, 3, 2), (20, .iload 5, 2, 0), (22, .iconst 0, 1, 0), (23, .iconst 1, 1, 0), (24, .invokestatic 171, 3, 3), (27, .ifCond .ne 8, 3, 2), (30, .aload_n 0, 1, 0), (31, .invokevirtual 345, 3, 3)],
  [(34, .lreturn, 1, 6), (35, .aload_n 0, 1, 0), (36, .iload_n 3, 1, 0), (37, .iload 4, 2, 0), (39, .invokevirtual 423, 3, 3), (42, .aload_n 0, 1, 0), (43, .aload_n 0, 1, 0), (44, .getfield 75, 3, 1), (47, .iconst 5, 1, 0)],
  [(48, .iload_n 1, 1, 0), (49, .imul, 1, 0), (50, .iload_n 2, 1, 0), (51, .iadd, 1, 0), (52, .laload, 1, 1), (53, .ldc2_w 414, 3, 0), (56, .iload 5, 2, 0), (58, .invokevirtual 351, 3, 3), (61, .lreturn, 1, 6)]]
theorem nn_d324 : ab_dtok prog_14_method_122_code nn_dt324 = true := dw_ok (by decide +kernel)
def nn_dt325 : ab_DT := [[(0, .aload_n 0, 1, 0), (1, .sipush 400, 3, 0), (4, .invokevirtual 249, 3, 3), (7, .aload_n 0, 1, 0), (8, .invokevirtual 457, 3, 3), (11, .ifCond .ne 11, 3, 2), (14, .bipush (-2), 2, 0)],
  [(16, .aload_n 0, 1, 0), (17, .getfield 165, 3, 1), (20, .isub, 1, 0), (21, .ireturn, 1, 6), (22, .aload_n 0, 1, 0), (23, .iconst 1, 1, 0), (24, .putfield 445, 3, 1), (27, .aload_n 0, 1, 0), (28, .iconst 0, 1, 0), (29, .putfield 442, 3, 1)],
  [(32, .aload_n 0, 1, 0), (33, .iconst (-1), 1, 0), (34, .putfield 448, 3, 1), (37, .aload_n 0, 1, 0), (38, .iconst 0, 1, 0), (39, .putfield 436, 3, 1), (42, .aload_n 0, 1, 0), (43, .iconst (-1), 1, 0), (44, .putfield 433, 3, 1), (47, .aload_n 0, 1, 0)],
  [(48, .iconst (-1), 1, 0), (49, .putfield 427, 3, 1), (52, .aload_n 0, 1, 0), (53, .iconst (-1), 1, 0), (54, .putfield 430, 3, 1), (57, .aload_n 0, 1, 0), (58, .getfield 126, 3, 1), (61, .ifCond .eq 18, 3, 2)],
  [(64, .aload_n 0, 1, 0), (65, .invokevirtual 460, 3, 3), (68, .ifCond .ne (-11), 3, 2), (71, .bipush (-2), 2, 0), (73, .aload_n 0, 1, 0), (74, .getfield 165, 3, 1), (77, .isub, 1, 0), (78, .ireturn, 1, 6), (79, .aload_n 0, 1, 0)],
  [(80, .getfield 81, 3, 1), (83, .iconst 0, 1, 0), (84, .aload_n 0, 1, 0), (85, .getfield 442, 3, 1), (88, .iastore, 1, 1), (89, .aload_n 0, 1, 0), (90, .getfield 81, 3, 1), (93, .iconst 1, 1, 0), (94, .aload_n 0, 1, 0), (95, .getfield 436, 3, 1)],
  [(98, .iastore, 1, 1), (99, .aload_n 0, 1, 0), (100, .getfield 81, 3, 1), (103, .iconst 2, 1, 0), (104, .aload_n 0, 1, 0), (105, .getfield 433, 3, 1), (108, .iastore, 1, 1), (109, .aload_n 0, 1, 0), (110, .getfield 81, 3, 1)],
  [(113, .iconst 3, 1, 0), (114, .aload_n 0, 1, 0), (115, .getfield 427, 3, 1), (118, .iastore, 1, 1), (119, .aload_n 0, 1, 0), (120, .getfield 81, 3, 1), (123, .iconst 4, 1, 0), (124, .aload_n 0, 1, 0), (125, .getfield 430, 3, 1)],
  [(128, .iastore, 1, 1), (129, .aload_n 0, 1, 0), (130, .aload_n 0, 1, 0), (131, .getfield 442, 3, 1), (134, .ifCond .ne 20, 3, 2), (137, .aload_n 0, 1, 0), (138, .getfield 427, 3, 1), (141, .iconst (-1), 1, 0), (142, .if_icmp .eq 12, 3, 2)],
  [(145, .aload_n 0, 1, 0), (146, .getfield 13, 3, 1), (149, .iconst 4, 1, 0), (150, .iaload, 1, 1), (151, .goto 4, 3, 2), (154, .iconst (-1), 1, 0), (155, .putfield 84, 3, 1), (158, .aload_n 0, 1, 0), (159, .aload_n 0, 1, 0)],
  [(160, .getfield 454, 3, 1), (163, .putfield 463, 3, 1), (166, .aload_n 0, 1, 0), (167, .getfield 448, 3, 1), (170, .ireturn, 1, 6)]]
theorem nn_d325 : ab_dtok prog_14_method_127_code nn_dt325 = true := dw_ok (by decide +kernel)
def nn_dt326 : ab_DT := [[(0, .aload_n 0, 1, 0), (1, .iconst 1, 1, 0), (2, .invokevirtual 225, 3, 3), (5, .ifCond .ne 9, 3, 2), (8, .aload_n 0, 1, 0), (9, .iconst 1, 1, 0), (10, .invokevirtual 168, 3, 3), (13, .ireturn, 1, 6), (14, .aload_n 0, 1, 0), (15, .invokevirtual 182, 3, 3)],
  [(18, .aload_n 0, 1, 0), (19, .invokevirtual 199, 3, 3), (22, .ifCond .ne 9, 3, 2), (25, .aload_n 0, 1, 0), (26, .iconst 1, 1, 0), (27, .invokevirtual 168, 3, 3), (30, .ireturn, 1, 6), (31, .aload_n 0, 1, 0)],
  [(32, .aload_n 0, 1, 0), (33, .getfield 25, 3, 1), (36, .bipush 9, 2, 0), (38, .aload_n 0, 1, 0), (39, .getfield 13, 3, 1), (42, .iconst 1, 1, 0), (43, .iaload, 1, 1), (44, .aload_n 0, 1, 0), (45, .getfield 139, 3, 1)],
  [(48, .invokestatic 203, 3, 3), (51, .putfield 454, 3, 1), (54, .aload_n 0, 1, 0), (55, .getfield 454, 3, 1), (58, .iconst (-1), 1, 0), (59, .if_icmp .ne 9, 3, 2), (62, .aload_n 0, 1, 0), (63, .iconst 3, 1, 0)],
  [(64, .invokevirtual 168, 3, 3), (67, .ireturn, 1, 6), (68, .aload_n 0, 1, 0), (69, .invokevirtual 182, 3, 3), (72, .aload_n 0, 1, 0), (73, .invokevirtual 246, 3, 3), (76, .ireturn, 1, 6)]]
theorem nn_d326 : ab_dtok prog_14_method_126_code nn_dt326 = true := dw_ok (by decide +kernel)
def nn_dt327 : ab_DT := [[(0, .aload_n 0, 1, 0), (1, .invokevirtual 199, 3, 3), (4, .ifCond .ne 9, 3, 2), (7, .aload_n 0, 1, 0), (8, .iconst 1, 1, 0), (9, .invokevirtual 168, 3, 3), (12, .ireturn, 1, 6), (13, .aload_n 0, 1, 0), (14, .getfield 25, 3, 1)],
  [(17, .bipush 15, 2, 0), (19, .aload_n 0, 1, 0), (20, .getfield 13, 3, 1), (23, .iconst 2, 1, 0), (24, .iaload, 1, 1), (25, .aload_n 0, 1, 0), (26, .getfield 139, 3, 1), (29, .invokestatic 203, 3, 3)],
  [(32, .istore_n 1, 1, 0), (33, .iload_n 1, 1, 0), (34, .iconst (-1), 1, 0), (35, .if_icmp .ne 9, 3, 2), (38, .aload_n 0, 1, 0), (39, .iconst 3, 1, 0), (40, .invokevirtual 168, 3, 3), (43, .ireturn, 1, 6), (44, .aload_n 0, 1, 0), (45, .invokevirtual 182, 3, 3)],
  [(48, .iconst 0, 1, 0), (49, .istore_n 2, 1, 0), (50, .aload_n 0, 1, 0), (51, .bipush 6, 2, 0), (53, .invokevirtual 225, 3, 3), (56, .ifCond .eq 10, 3, 2), (59, .aload_n 0, 1, 0), (60, .invokevirtual 182, 3, 3), (63, .goto 20, 3, 2)],
  [(66, .aload_n 0, 1, 0), (67, .iconst 1, 1, 0), (68, .bipush 9, 2, 0), (70, .invokevirtual 210, 3, 3), (73, .ifCond .ne 5, 3, 2), (76, .iconst 0, 1, 0), (77, .ireturn, 1, 6), (78, .aload_n 0, 1, 0), (79, .getfield 175, 3, 1)],
  [(82, .istore_n 2, 1, 0), (83, .aload_n 0, 1, 0), (84, .invokevirtual 246, 3, 3), (87, .ifCond .ne 5, 3, 2), (90, .iconst 0, 1, 0), (91, .ireturn, 1, 6), (92, .aload_n 0, 1, 0), (93, .getfield 442, 3, 1)],
  [(96, .ifCond .ne 9, 3, 2), (99, .aload_n 0, 1, 0), (100, .iload_n 1, 1, 0), (101, .iload_n 2, 1, 0), (102, .invokevirtual 451, 3, 3), (105, .aload_n 0, 1, 0), (106, .dup, 1, 0), (107, .getfield 445, 3, 1), (110, .iconst 1, 1, 0), (111, .iadd, 1, 0)],
  [(112, .putfield 445, 3, 1), (115, .iconst 1, 1, 0), (116, .ireturn, 1, 6)]]
theorem nn_d327 : ab_dtok prog_14_method_125_code nn_dt327 = true := dw_ok (by decide +kernel)
def nn_dt328 : ab_DT := [[(0, .aload_n 0, 1, 0), (1, .aload_n 0, 1, 0), (2, .iload_n 1, 1, 0), (3, .iload_n 2, 1, 0), (4, .invokevirtual 439, 3, 3), (7, .putfield 442, 3, 1), (10, .aload_n 0, 1, 0), (11, .getfield 442, 3, 1), (14, .ifCond .eq 12, 3, 2)],
  [(17, .aload_n 0, 1, 0), (18, .aload_n 0, 1, 0), (19, .getfield 445, 3, 1), (22, .putfield 448, 3, 1), (25, .return_, 1, 6), (26, .iload_n 2, 1, 0), (27, .ifCond .ne 14, 3, 2), (30, .aload_n 0, 1, 0), (31, .iload_n 1, 1, 0)],
  [(32, .putfield 427, 3, 1), (35, .aload_n 0, 1, 0), (36, .iconst (-1), 1, 0), (37, .putfield 430, 3, 1), (40, .return_, 1, 6), (41, .aload_n 0, 1, 0), (42, .getfield 433, 3, 1), (45, .istore_n 3, 1, 0), (46, .aload_n 0, 1, 0), (47, .iload_n 2, 1, 0)],
  [(48, .putfield 436, 3, 1), (51, .aload_n 0, 1, 0), (52, .iload_n 1, 1, 0), (53, .putfield 433, 3, 1), (56, .aload_n 0, 1, 0), (57, .iload_n 3, 1, 0), (58, .putfield 430, 3, 1), (61, .return_, 1, 6)]]
theorem nn_d328 : ab_dtok prog_14_method_124_code nn_dt328 = true := dw_ok (by decide +kernel)
def nn_dt329 : ab_DT := [[(0, .aload_n 0, 1, 0), (1, .getfield 427, 3, 1), (4, .iconst (-1), 1, 0), (5, .if_icmp .eq 5, 3, 2), (8, .iconst 1, 1, 0), (9, .ireturn, 1, 6), (10, .aload_n 0, 1, 0), (11, .getfield 430, 3, 1), (14, .iconst (-1), 1, 0), (15, .if_icmp .eq 14, 3, 2)],
  [(18, .iload_n 1, 1, 0), (19, .aload_n 0, 1, 0), (20, .getfield 430, 3, 1), (23, .if_icmp .eq 16, 3, 2), (26, .goto 11, 3, 2), (29, .iload_n 1, 1, 0), (30, .aload_n 0, 1, 0), (31, .getfield 433, 3, 1)],
  [(34, .if_icmp .ne 5, 3, 2), (37, .iconst 2, 1, 0), (38, .ireturn, 1, 6), (39, .iload_n 2, 1, 0), (40, .ifCond .le 35, 3, 2), (43, .iload_n 2, 1, 0), (44, .aload_n 0, 1, 0), (45, .getfield 436, 3, 1)],
  [(48, .ifCond .ne 12, 3, 2), (51, .aload_n 0, 1, 0), (52, .getfield 13, 3, 1), (55, .iconst 3, 1, 0), (56, .iaload, 1, 1), (57, .goto 9, 3, 2), (60, .aload_n 0, 1, 0), (61, .getfield 436, 3, 1)],
  [(64, .iconst 1, 1, 0), (65, .isub, 1, 0), (66, .if_icmp .le 7, 3, 2), (69, .iconst 3, 1, 0), (70, .goto 4, 3, 2), (73, .iconst 0, 1, 0), (74, .ireturn, 1, 6), (75, .aload_n 0, 1, 0), (76, .getfield 436, 3, 1), (79, .ifCond .ne 7, 3, 2)],
  [(82, .iconst 4, 1, 0), (83, .goto 4, 3, 2), (86, .iconst 0, 1, 0), (87, .ireturn, 1, 6)]]
theorem nn_d329 : ab_dtok prog_14_method_123_code nn_dt329 = true := dw_ok (by decide +kernel)
def nn_dt330 : ab_DT := [[(0, .aload_n 0, 1, 0), (1, .iconst 0, 1, 0), (2, .putfield 100, 3, 1), (5, .iload_n 1, 1, 0), (6, .iconst 0, 1, 0), (7, .iconst 4, 1, 0), (8, .invokestatic 171, 3, 3), (11, .ifCond .eq 12, 3, 2), (14, .aload_n 0, 1, 0), (15, .getfield 81, 3, 1)],
  [(18, .iload_n 1, 1, 0), (19, .iaload, 1, 1), (20, .goto 4, 3, 2), (23, .iconst (-1), 1, 0), (24, .ireturn, 1, 6)]]
theorem nn_d330 : ab_dtok prog_14_method_128_code nn_dt330 = true := dw_ok (by decide +kernel)
def nn_dt331 : ab_DT := [[(0, .aload_n 0, 1, 0), (1, .getfield 84, 3, 1), (4, .iconst (-1), 1, 0), (5, .if_icmp .eq 25, 3, 2), (8, .aload_n 0, 1, 0), (9, .getfield 84, 3, 1), (12, .aload_n 0, 1, 0), (13, .getfield 13, 3, 1)],
  [(16, .iconst 4, 1, 0), (17, .iaload, 1, 1), (18, .if_icmp .ne 12, 3, 2), (21, .iload_n 1, 1, 0), (22, .iconst 0, 1, 0), (23, .iconst 1, 1, 0), (24, .invokestatic 171, 3, 3), (27, .ifCond .ne 8, 3, 2), (30, .aload_n 0, 1, 0), (31, .invokevirtual 345, 3, 3)],
  [(34, .lreturn, 1, 6), (35, .aload_n 0, 1, 0), (36, .aload_n 0, 1, 0), (37, .aload_n 0, 1, 0), (38, .getfield 81, 3, 1), (41, .iconst 2, 1, 0), (42, .iaload, 1, 1), (43, .aload_n 0, 1, 0), (44, .getfield 81, 3, 1), (47, .iconst 1, 1, 0)],
  [(48, .iaload, 1, 1), (49, .aload_n 0, 1, 0), (50, .aload_n 0, 1, 0), (51, .getfield 463, 3, 1), (54, .invokevirtual 303, 3, 3), (57, .invokevirtual 355, 3, 3), (60, .ldc2_w 358, 3, 0), (63, .iload_n 1, 1, 0)],
  [(64, .invokevirtual 351, 3, 3), (67, .lreturn, 1, 6)]]
theorem nn_d331 : ab_dtok prog_14_method_129_code nn_dt331 = true := dw_ok (by decide +kernel)
def nn_dt332 : ab_DT := [[(0, .aload_n 0, 1, 0), (1, .iconst 0, 1, 0), (2, .putfield 100, 3, 1), (5, .aload_n 0, 1, 0), (6, .iload_n 1, 1, 0), (7, .iload_n 2, 1, 0), (8, .invokevirtual 483, 3, 3), (11, .ifCond .ne 6, 3, 2), (14, .bipush (-2), 2, 0)],
  [(16, .ireturn, 1, 6), (17, .aload_n 0, 1, 0), (18, .iload_n 1, 1, 0), (19, .iload_n 2, 1, 0), (20, .iload_n 3, 1, 0), (21, .invokevirtual 486, 3, 3), (24, .istore 4, 2, 0), (26, .iconst 0, 1, 0), (27, .istore 5, 2, 0), (29, .iload 5, 2, 0), (31, .iconst 5, 1, 0)],
  [(32, .if_icmp .ge 23, 3, 2), (35, .aload_n 0, 1, 0), (36, .getfield 91, 3, 1), (39, .iload 5, 2, 0), (41, .aload_n 0, 1, 0), (42, .getfield 94, 3, 1), (45, .iload 5, 2, 0), (47, .iaload, 1, 1)],
  [(48, .iastore, 1, 1), (49, .iinc 5 1, 3, 0), (52, .goto (-23), 3, 2), (55, .iload 4, 2, 0), (57, .ireturn, 1, 6)]]
theorem nn_d332 : ab_dtok prog_14_method_136_code nn_dt332 = true := dw_ok (by decide +kernel)
def nn_dt333 : ab_DT := [[(0, .aload_n 0, 1, 0), (1, .iload_n 1, 1, 0), (2, .invokevirtual 281, 3, 3), (5, .ifCond .eq 29, 3, 2), (8, .aload_n 0, 1, 0), (9, .iload_n 2, 1, 0), (10, .invokevirtual 281, 3, 3), (13, .ifCond .eq 21, 3, 2)],
  [(16, .iload_n 1, 1, 0), (17, .iload_n 2, 1, 0), (18, .if_icmp .eq 16, 3, 2), (21, .aload_n 0, 1, 0), (22, .getfield 13, 3, 1), (25, .iconst 1, 1, 0), (26, .iaload, 1, 1), (27, .ifCond .le 7, 3, 2), (30, .iconst 1, 1, 0), (31, .goto 4, 3, 2)],
  [(34, .iconst 0, 1, 0), (35, .ireturn, 1, 6)]]
theorem nn_d333 : ab_dtok prog_14_method_135_code nn_dt333 = true := dw_ok (by decide +kernel)
def nn_dt334 : ab_DT := [[(0, .aload_n 0, 1, 0), (1, .iload_n 3, 1, 0), (2, .putfield 466, 3, 1), (5, .iconst 0, 1, 0), (6, .istore 4, 2, 0), (8, .iload 4, 2, 0), (10, .iconst 4, 1, 0), (11, .if_icmp .ge 17, 3, 2), (14, .aload_n 0, 1, 0), (15, .getfield 94, 3, 1)],
  [(18, .iload 4, 2, 0), (20, .iconst 0, 1, 0), (21, .iastore, 1, 1), (22, .iinc 4 1, 3, 0), (25, .goto (-17), 3, 2), (28, .aload_n 0, 1, 0), (29, .getfield 94, 3, 1)],
  [(32, .iconst 4, 1, 0), (33, .bipush 99, 2, 0), (35, .iastore, 1, 1), (36, .iconst 0, 1, 0), (37, .istore 4, 2, 0), (39, .aload_n 0, 1, 0), (40, .getfield 94, 3, 1), (43, .iconst 1, 1, 0), (44, .iaload, 1, 1), (45, .iconst 3, 1, 0), (46, .if_icmp .ge 51, 3, 2)],
  [(49, .aload_n 0, 1, 0), (50, .getfield 94, 3, 1), (53, .iconst 2, 1, 0), (54, .iaload, 1, 1), (55, .iconst 3, 1, 0), (56, .if_icmp .ge 41, 3, 2), (59, .aload_n 0, 1, 0), (60, .getfield 94, 3, 1), (63, .iconst 1, 1, 0)],
  [(64, .aload_n 0, 1, 0), (65, .iload_n 1, 1, 0), (66, .iload_n 2, 1, 0), (67, .iload 4, 2, 0), (69, .invokevirtual 480, 3, 3), (72, .iadd, 1, 0), (73, .dup2, 1, 0), (74, .iaload, 1, 1), (75, .iconst 1, 1, 0), (76, .iadd, 1, 0), (77, .iastore, 1, 1), (78, .aload_n 0, 1, 0), (79, .getfield 94, 3, 1)],
  [(82, .iconst 0, 1, 0), (83, .dup2, 1, 0), (84, .iaload, 1, 1), (85, .iconst 1, 1, 0), (86, .iadd, 1, 0), (87, .iastore, 1, 1), (88, .iconst 1, 1, 0), (89, .iload 4, 2, 0), (91, .isub, 1, 0), (92, .istore 4, 2, 0), (94, .goto (-55), 3, 2)],
  [(97, .aload_n 0, 1, 0), (98, .getfield 94, 3, 1), (101, .iconst 1, 1, 0), (102, .iaload, 1, 1), (103, .iconst 3, 1, 0), (104, .if_icmp .ne 7, 3, 2), (107, .iconst 1, 1, 0), (108, .goto 4, 3, 2), (111, .iconst (-1), 1, 0)],
  [(112, .ireturn, 1, 6)]]
theorem nn_d334 : ab_dtok prog_14_method_134_code nn_dt334 = true := dw_ok (by decide +kernel)
def nn_dt335 : ab_DT := [[(0, .aload_n 0, 1, 0), (1, .getfield 13, 3, 1), (4, .sipush 176, 3, 0), (7, .aload_n 0, 1, 0), (8, .aload_n 0, 1, 0), (9, .getfield 13, 3, 1), (12, .iconst 1, 1, 0), (13, .iaload, 1, 1), (14, .invokevirtual 470, 3, 3)],
  [(17, .iadd, 1, 0), (18, .iaload, 1, 1), (19, .istore 4, 2, 0), (21, .iload 4, 2, 0), (23, .aload_n 0, 1, 0), (24, .iload 4, 2, 0), (26, .invokestatic 322, 3, 3), (29, .invokevirtual 470, 3, 3)],
  [(32, .invokestatic 473, 3, 3), (35, .istore 5, 2, 0), (37, .iconst 0, 1, 0), (38, .istore 6, 2, 0), (40, .iload 6, 2, 0), (42, .iconst 2, 1, 0), (43, .if_icmp .ge 84, 3, 2), (46, .aload_n 0, 1, 0), (47, .getfield 88, 3, 1)],
  [(50, .iload 6, 2, 0), (52, .iconst 0, 1, 0), (53, .iastore, 1, 1), (54, .iconst 0, 1, 0), (55, .istore 7, 2, 0), (57, .iload 7, 2, 0), (59, .aload_n 0, 1, 0), (60, .invokevirtual 261, 3, 3), (63, .if_icmp .ge 58, 3, 2)],
  [(66, .iload 4, 2, 0), (68, .iload 7, 2, 0), (70, .invokestatic 216, 3, 3), (73, .ifCond .eq 42, 3, 2), (76, .aload_n 0, 1, 0), (77, .bipush 9, 2, 0), (79, .invokevirtual 470, 3, 3)],
  [(82, .aload_n 0, 1, 0), (83, .iload 6, 2, 0), (85, .ifCond .ne 7, 3, 2), (88, .iload_n 1, 1, 0), (89, .goto 4, 3, 2), (92, .iload_n 2, 1, 0), (93, .iload 7, 2, 0), (95, .invokevirtual 284, 3, 3)],
  [(98, .if_icmp .ge 17, 3, 2), (101, .aload_n 0, 1, 0), (102, .getfield 88, 3, 1), (105, .iload 6, 2, 0), (107, .dup2, 1, 0), (108, .iaload, 1, 1), (109, .iconst 1, 1, 0), (110, .iload 7, 2, 0)],
  [(112, .ishl, 1, 0), (113, .ior, 1, 0), (114, .iastore, 1, 1), (115, .iinc 7 1, 3, 0), (118, .goto (-61), 3, 2), (121, .iinc 6 1, 3, 0), (124, .goto (-84), 3, 2), (127, .aload_n 0, 1, 0)],
  [(128, .getfield 13, 3, 1), (131, .iconst 3, 1, 0), (132, .iaload, 1, 1), (133, .istore 6, 2, 0), (135, .iload_n 3, 1, 0), (136, .istore 7, 2, 0), (138, .aload_n 0, 1, 0), (139, .iconst 1, 1, 0), (140, .iload 7, 2, 0), (142, .isub, 1, 0), (143, .iload 7, 2, 0)],
  [(145, .ifCond .ne 7, 3, 2), (148, .iload_n 2, 1, 0), (149, .goto 4, 3, 2), (152, .iload_n 1, 1, 0), (153, .iload 5, 2, 0), (155, .iload 6, 2, 0), (157, .iconst 1, 1, 0), (158, .isub, 1, 0), (159, .iload 4, 2, 0)],
  [(161, .invokevirtual 476, 3, 3), (164, .ifCond .eq 15, 3, 2), (167, .iconst 1, 1, 0), (168, .iload 7, 2, 0), (170, .isub, 1, 0), (171, .istore 7, 2, 0), (173, .iinc 6 (-1), 3, 0)],
  [(176, .goto (-38), 3, 2), (179, .aload_n 0, 1, 0), (180, .getfield 94, 3, 1), (183, .iconst 4, 1, 0), (184, .aload_n 0, 1, 0), (185, .getfield 94, 3, 1), (188, .iconst 4, 1, 0), (189, .iaload, 1, 1), (190, .iload 6, 2, 0)],
  [(192, .invokestatic 316, 3, 3), (195, .iastore, 1, 1), (196, .aload_n 0, 1, 0), (197, .iload 5, 2, 0), (199, .iload 6, 2, 0), (201, .iconst 0, 1, 0), (202, .iload 4, 2, 0), (204, .invokevirtual 306, 3, 3), (207, .aload_n 0, 1, 0)],
  [(208, .getfield 88, 3, 1), (211, .iload 7, 2, 0), (213, .iaload, 1, 1), (214, .iand, 1, 0), (215, .istore 8, 2, 0), (217, .iload 8, 2, 0), (219, .ifCond .eq 26, 3, 2), (222, .iload 8, 2, 0)],
  [(224, .aload_n 0, 1, 0), (225, .iload 8, 2, 0), (227, .invokestatic 322, 3, 3), (230, .invokevirtual 470, 3, 3), (233, .invokestatic 473, 3, 3), (236, .iload 5, 2, 0), (238, .if_icmp .ne 7, 3, 2)],
  [(241, .iconst 1, 1, 0), (242, .goto 4, 3, 2), (245, .iconst 0, 1, 0), (246, .istore 9, 2, 0), (248, .iload 9, 2, 0), (250, .ifCond .eq 13, 3, 2), (253, .aload_n 0, 1, 0), (254, .getfield 94, 3, 1)],
  [(257, .iconst 3, 1, 0), (258, .dup2, 1, 0), (259, .iaload, 1, 1), (260, .iconst 1, 1, 0), (261, .iadd, 1, 0), (262, .iastore, 1, 1), (263, .iload 9, 2, 0), (265, .ifCond .eq 8, 3, 2), (268, .iload 7, 2, 0), (270, .goto 7, 3, 2)],
  [(273, .iconst 1, 1, 0), (274, .iload 7, 2, 0), (276, .isub, 1, 0), (277, .ireturn, 1, 6)]]
theorem nn_d335 : ab_dtok prog_14_method_133_code nn_dt335 = true := dw_ok (by decide +kernel)
def nn_dt336 : ab_DT := [[(0, .aload_n 0, 1, 0), (1, .aload_n 0, 1, 0), (2, .getfield 466, 3, 1), (5, .ldc_w 469, 3, 0), (8, .imul, 1, 0), (9, .sipush 12345, 3, 0), (12, .iadd, 1, 0), (13, .putfield 466, 3, 1)],
  [(16, .aload_n 0, 1, 0), (17, .getfield 466, 3, 1), (20, .bipush 8, 2, 0), (22, .iushr, 1, 0), (23, .iload_n 1, 1, 0), (24, .irem, 1, 0), (25, .ireturn, 1, 6)]]
theorem nn_d336 : ab_dtok prog_14_method_130_code nn_dt336 = true := dw_ok (by decide +kernel)
def nn_dt337 : ab_DT := [[(0, .iconst 0, 1, 0), (1, .istore_n 2, 1, 0), (2, .iconst 0, 1, 0), (3, .istore_n 3, 1, 0), (4, .iload_n 3, 1, 0), (5, .bipush 9, 2, 0), (7, .if_icmp .ge 30, 3, 2), (10, .iload_n 0, 1, 0), (11, .iload_n 3, 1, 0), (12, .invokestatic 216, 3, 3), (15, .ifCond .ne 6, 3, 2)],
  [(18, .goto 13, 3, 2), (21, .iload_n 2, 1, 0), (22, .iload_n 1, 1, 0), (23, .if_icmp .ne 5, 3, 2), (26, .iload_n 3, 1, 0), (27, .ireturn, 1, 6), (28, .iinc 2 1, 3, 0), (31, .iinc 3 1, 3, 0)],
  [(34, .goto (-30), 3, 2), (37, .iconst (-1), 1, 0), (38, .ireturn, 1, 6)]]
theorem nn_d337 : ab_dtok prog_14_method_131_code nn_dt337 = true := dw_ok (by decide +kernel)
def nn_dt338 : ab_DT := [[(0, .iload 4, 2, 0), (2, .ifCond .eq 16, 3, 2), (5, .aload_n 0, 1, 0), (6, .getfield 88, 3, 1), (9, .iload_n 1, 1, 0), (10, .iaload, 1, 1), (11, .iload_n 3, 1, 0), (12, .invokestatic 216, 3, 3), (15, .ifCond .ne 5, 3, 2)],
  [(18, .iconst 0, 1, 0), (19, .ireturn, 1, 6), (20, .aload_n 0, 1, 0), (21, .iload_n 3, 1, 0), (22, .iload 4, 2, 0), (24, .iconst 0, 1, 0), (25, .iload 5, 2, 0), (27, .invokevirtual 306, 3, 3), (30, .aload_n 0, 1, 0), (31, .getfield 88, 3, 1)],
  [(34, .iload_n 1, 1, 0), (35, .iaload, 1, 1), (36, .iand, 1, 0), (37, .invokestatic 322, 3, 3), (40, .iconst 1, 1, 0), (41, .isub, 1, 0), (42, .bipush 9, 2, 0), (44, .aload_n 0, 1, 0), (45, .getfield 13, 3, 1)],
  [(48, .sipush 227, 3, 0), (51, .iload_n 2, 1, 0), (52, .iadd, 1, 0), (53, .iaload, 1, 1), (54, .isub, 1, 0), (55, .if_icmp .gt 7, 3, 2), (58, .iconst 1, 1, 0), (59, .goto 4, 3, 2), (62, .iconst 0, 1, 0), (63, .ireturn, 1, 6)]]
theorem nn_d338 : ab_dtok prog_14_method_132_code nn_dt338 = true := dw_ok (by decide +kernel)
def nn_dt339 : ab_DT := [[(0, .aload_n 0, 1, 0), (1, .iconst 0, 1, 0), (2, .putfield 100, 3, 1), (5, .iload_n 1, 1, 0), (6, .iconst 0, 1, 0), (7, .iconst 4, 1, 0), (8, .invokestatic 171, 3, 3), (11, .ifCond .eq 12, 3, 2), (14, .aload_n 0, 1, 0), (15, .getfield 91, 3, 1)],
  [(18, .iload_n 1, 1, 0), (19, .iaload, 1, 1), (20, .goto 4, 3, 2), (23, .iconst (-1), 1, 0), (24, .ireturn, 1, 6)]]
theorem nn_d339 : ab_dtok prog_14_method_137_code nn_dt339 = true := dw_ok (by decide +kernel)
def nn_dt340 : ab_DT := [[(0, .aload_n 0, 1, 0), (1, .iconst 0, 1, 0), (2, .putfield 100, 3, 1), (5, .aload_n 0, 1, 0), (6, .iload_n 1, 1, 0), (7, .iload_n 2, 1, 0), (8, .invokevirtual 483, 3, 3), (11, .ifCond .eq 13, 3, 2), (14, .iload_n 3, 1, 0), (15, .iconst 1, 1, 0)],
  [(16, .bipush 100, 2, 0), (18, .invokestatic 171, 3, 3), (21, .ifCond .ne 5, 3, 2), (24, .iconst (-1), 1, 0), (25, .ireturn, 1, 6), (26, .iconst 0, 1, 0), (27, .istore 5, 2, 0), (29, .iconst 0, 1, 0), (30, .istore 6, 2, 0)],
  [(32, .iload 6, 2, 0), (34, .iload_n 3, 1, 0), (35, .if_icmp .ge 27, 3, 2), (38, .aload_n 0, 1, 0), (39, .iload_n 1, 1, 0), (40, .iload_n 2, 1, 0), (41, .iload 4, 2, 0), (43, .iload 6, 2, 0), (45, .iadd, 1, 0), (46, .invokevirtual 486, 3, 3)],
  [(49, .iconst 1, 1, 0), (50, .if_icmp .ne 6, 3, 2), (53, .iinc 5 1, 3, 0), (56, .iinc 6 1, 3, 0), (59, .goto (-27), 3, 2), (62, .iload 5, 2, 0)],
  [(64, .ireturn, 1, 6)]]
theorem nn_d340 : ab_dtok prog_14_method_138_code nn_dt340 = true := dw_ok (by decide +kernel)
def nn_dt341 : ab_DT := [[(0, .aload_n 0, 1, 0), (1, .sipush 200, 3, 0), (4, .invokevirtual 249, 3, 3), (7, .aload_n 0, 1, 0), (8, .iconst 0, 1, 0), (9, .putfield 489, 3, 1), (12, .aload_n 0, 1, 0), (13, .iconst 0, 1, 0), (14, .putfield 504, 3, 1)],
  [(17, .aload_n 0, 1, 0), (18, .iconst 0, 1, 0), (19, .putfield 507, 3, 1), (22, .aload_n 0, 1, 0), (23, .invokevirtual 522, 3, 3), (26, .ifCond .ne 10, 3, 2), (29, .iconst (-1), 1, 0), (30, .aload_n 0, 1, 0), (31, .getfield 165, 3, 1)],
  [(34, .isub, 1, 0), (35, .ireturn, 1, 6), (36, .aload_n 0, 1, 0), (37, .getfield 126, 3, 1), (40, .ifCond .eq 16, 3, 2), (43, .aload_n 0, 1, 0), (44, .iconst 1, 1, 0), (45, .invokevirtual 168, 3, 3)],
  [(48, .pop, 1, 0), (49, .iconst (-1), 1, 0), (50, .aload_n 0, 1, 0), (51, .getfield 165, 3, 1), (54, .isub, 1, 0), (55, .ireturn, 1, 6), (56, .aload_n 0, 1, 0), (57, .getfield 13, 3, 1), (60, .sipush 232, 3, 0), (63, .iconst 1, 1, 0)],
  [(64, .iastore, 1, 1), (65, .aload_n 0, 1, 0), (66, .getfield 13, 3, 1), (69, .sipush 233, 3, 0), (72, .aload_n 0, 1, 0), (73, .getfield 495, 3, 1), (76, .iastore, 1, 1), (77, .iconst 0, 1, 0), (78, .istore_n 1, 1, 0), (79, .iload_n 1, 1, 0)],
  [(80, .sipush 240, 3, 0), (83, .if_icmp .ge 25, 3, 2), (86, .aload_n 0, 1, 0), (87, .getfield 13, 3, 1), (90, .sipush 234, 3, 0), (93, .iload_n 1, 1, 0), (94, .iadd, 1, 0), (95, .aload_n 0, 1, 0)],
  [(96, .getfield 97, 3, 1), (99, .iload_n 1, 1, 0), (100, .iaload, 1, 1), (101, .iastore, 1, 1), (102, .iinc 1 1, 3, 0), (105, .goto (-26), 3, 2), (108, .aload_n 0, 1, 0), (109, .getfield 504, 3, 1)],
  [(112, .ireturn, 1, 6)]]
theorem nn_d341 : ab_dtok prog_14_method_147_code nn_dt341 = true := dw_ok (by decide +kernel)
def nn_dt342 : ab_DT := [[(0, .aload_n 0, 1, 0), (1, .invokevirtual 492, 3, 3), (4, .ifCond .ne 5, 3, 2), (7, .iconst 0, 1, 0), (8, .ireturn, 1, 6), (9, .aload_n 0, 1, 0), (10, .getfield 495, 3, 1), (13, .istore_n 1, 1, 0), (14, .aload_n 0, 1, 0), (15, .bipush 7, 2, 0)],
  [(17, .invokevirtual 225, 3, 3), (20, .ifCond .eq 31, 3, 2), (23, .aload_n 0, 1, 0), (24, .invokevirtual 182, 3, 3), (27, .aload_n 0, 1, 0), (28, .invokevirtual 492, 3, 3), (31, .ifCond .ne 5, 3, 2)],
  [(34, .iconst 0, 1, 0), (35, .ireturn, 1, 6), (36, .aload_n 0, 1, 0), (37, .iconst 3, 1, 0), (38, .iload_n 1, 1, 0), (39, .aload_n 0, 1, 0), (40, .getfield 495, 3, 1), (43, .iconst 0, 1, 0), (44, .invokevirtual 498, 3, 3), (47, .istore_n 1, 1, 0)],
  [(48, .goto (-34), 3, 2), (51, .aload_n 0, 1, 0), (52, .iload_n 1, 1, 0), (53, .putfield 495, 3, 1), (56, .iconst 1, 1, 0), (57, .ireturn, 1, 6)]]
theorem nn_d342 : ab_dtok prog_14_method_140_code nn_dt342 = true := dw_ok (by decide +kernel)
def nn_dt343 : ab_DT := [[(0, .aload_n 0, 1, 0), (1, .invokevirtual 501, 3, 3), (4, .ifCond .ne 5, 3, 2), (7, .iconst 0, 1, 0), (8, .ireturn, 1, 6), (9, .aload_n 0, 1, 0), (10, .getfield 495, 3, 1), (13, .istore_n 1, 1, 0), (14, .aload_n 0, 1, 0), (15, .bipush 8, 2, 0)],
  [(17, .invokevirtual 225, 3, 3), (20, .ifCond .eq 31, 3, 2), (23, .aload_n 0, 1, 0), (24, .invokevirtual 182, 3, 3), (27, .aload_n 0, 1, 0), (28, .invokevirtual 501, 3, 3), (31, .ifCond .ne 5, 3, 2)],
  [(34, .iconst 0, 1, 0), (35, .ireturn, 1, 6), (36, .aload_n 0, 1, 0), (37, .iconst 2, 1, 0), (38, .iload_n 1, 1, 0), (39, .aload_n 0, 1, 0), (40, .getfield 495, 3, 1), (43, .iconst 0, 1, 0), (44, .invokevirtual 498, 3, 3), (47, .istore_n 1, 1, 0)],
  [(48, .goto (-34), 3, 2), (51, .aload_n 0, 1, 0), (52, .iload_n 1, 1, 0), (53, .putfield 495, 3, 1), (56, .iconst 1, 1, 0), (57, .ireturn, 1, 6)]]
theorem nn_d343 : ab_dtok prog_14_method_141_code nn_dt343 = true := dw_ok (by decide +kernel)
def nn_dt344 : ab_DT := [[(0, .aload_n 0, 1, 0), (1, .bipush 40, 2, 0), (3, .invokevirtual 185, 3, 3), (6, .istore_n 1, 1, 0), (7, .bipush 9, 2, 0), (9, .istore_n 2, 1, 0), (10, .iload_n 2, 1, 0), (11, .bipush 16, 2, 0), (13, .if_icmp .gt 17, 3, 2)],
  [(16, .aload_n 0, 1, 0), (17, .iload_n 2, 1, 0), (18, .invokevirtual 225, 3, 3), (21, .ifCond .ne 9, 3, 2), (24, .iinc 2 1, 3, 0), (27, .goto (-17), 3, 2), (30, .iload_n 1, 1, 0), (31, .ifCond .ne 15, 3, 2)],
  [(34, .iload_n 2, 1, 0), (35, .bipush 16, 2, 0), (37, .if_icmp .le 9, 3, 2), (40, .aload_n 0, 1, 0), (41, .iconst 1, 1, 0), (42, .invokevirtual 168, 3, 3), (45, .ireturn, 1, 6), (46, .aload_n 0, 1, 0), (47, .getfield 504, 3, 1)],
  [(50, .bipush 20, 2, 0), (52, .if_icmp .eq 12, 3, 2), (55, .aload_n 0, 1, 0), (56, .getfield 507, 3, 1), (59, .bipush 8, 2, 0), (61, .if_icmp .ne 9, 3, 2)],
  [(64, .aload_n 0, 1, 0), (65, .iconst 4, 1, 0), (66, .invokevirtual 168, 3, 3), (69, .ireturn, 1, 6), (70, .aload_n 0, 1, 0), (71, .dup, 1, 0), (72, .getfield 504, 3, 1), (75, .iconst 1, 1, 0), (76, .iadd, 1, 0), (77, .putfield 504, 3, 1)],
  [(80, .aload_n 0, 1, 0), (81, .dup, 1, 0), (82, .getfield 507, 3, 1), (85, .iconst 1, 1, 0), (86, .iadd, 1, 0), (87, .putfield 507, 3, 1), (90, .aload_n 0, 1, 0), (91, .invokevirtual 182, 3, 3), (94, .iconst 1, 1, 0), (95, .istore_n 3, 1, 0)],
  [(96, .iload_n 1, 1, 0), (97, .ifCond .eq 11, 3, 2), (100, .aload_n 0, 1, 0), (101, .invokevirtual 510, 3, 3), (104, .istore_n 3, 1, 0), (105, .goto 89, 3, 2), (108, .iload_n 2, 1, 0), (109, .bipush 9, 2, 0), (111, .if_icmp .ne 11, 3, 2)],
  [(114, .aload_n 0, 1, 0), (115, .invokevirtual 513, 3, 3), (118, .istore_n 3, 1, 0), (119, .goto 75, 3, 2), (122, .iload_n 2, 1, 0), (123, .bipush 10, 2, 0), (125, .if_icmp .ne 20, 3, 2)],
  [(128, .aload_n 0, 1, 0), (129, .iload_n 2, 1, 0), (130, .bipush 9, 2, 0), (132, .aload_n 0, 1, 0), (133, .getfield 13, 3, 1), (136, .iconst 1, 1, 0), (137, .iaload, 1, 1), (138, .invokevirtual 516, 3, 3), (141, .istore_n 3, 1, 0), (142, .goto 52, 3, 2)],
  [(145, .iload_n 2, 1, 0), (146, .bipush 11, 2, 0), (148, .if_icmp .ne 20, 3, 2), (151, .aload_n 0, 1, 0), (152, .iload_n 2, 1, 0), (153, .bipush 15, 2, 0), (155, .aload_n 0, 1, 0), (156, .getfield 13, 3, 1), (159, .iconst 2, 1, 0)],
  [(160, .iaload, 1, 1), (161, .invokevirtual 516, 3, 3), (164, .istore_n 3, 1, 0), (165, .goto 29, 3, 2), (168, .iload_n 2, 1, 0), (169, .bipush 12, 2, 0), (171, .if_icmp .ne 17, 3, 2), (174, .aload_n 0, 1, 0), (175, .iload_n 2, 1, 0)],
  [(176, .iconst 0, 1, 0), (177, .aload_n 0, 1, 0), (178, .invokevirtual 261, 3, 3), (181, .invokevirtual 516, 3, 3), (184, .istore_n 3, 1, 0), (185, .goto 9, 3, 2), (188, .aload_n 0, 1, 0), (189, .iload_n 2, 1, 0), (190, .invokevirtual 519, 3, 3)],
  [(193, .istore_n 3, 1, 0), (194, .aload_n 0, 1, 0), (195, .dup, 1, 0), (196, .getfield 507, 3, 1), (199, .iconst 1, 1, 0), (200, .isub, 1, 0), (201, .putfield 507, 3, 1), (204, .iload_n 3, 1, 0), (205, .ireturn, 1, 6)]]
theorem nn_d344 : ab_dtok prog_14_method_142_code nn_dt344 = true := dw_ok (by decide +kernel)
def nn_dt345 : ab_DT := [[(0, .aload_n 0, 1, 0), (1, .invokevirtual 522, 3, 3), (4, .ifCond .ne 5, 3, 2), (7, .iconst 0, 1, 0), (8, .ireturn, 1, 6), (9, .aload_n 0, 1, 0), (10, .bipush 41, 2, 0), (12, .invokevirtual 185, 3, 3), (15, .ifCond .ne 9, 3, 2)],
  [(18, .aload_n 0, 1, 0), (19, .iconst 1, 1, 0), (20, .invokevirtual 168, 3, 3), (23, .ireturn, 1, 6), (24, .aload_n 0, 1, 0), (25, .invokevirtual 182, 3, 3), (28, .iconst 1, 1, 0), (29, .ireturn, 1, 6)]]
theorem nn_d345 : ab_dtok prog_14_method_144_code nn_dt345 = true := dw_ok (by decide +kernel)
def nn_dt346 : ab_DT := [[(0, .aload_n 0, 1, 0), (1, .invokevirtual 501, 3, 3), (4, .ifCond .ne 5, 3, 2), (7, .iconst 0, 1, 0), (8, .ireturn, 1, 6), (9, .aload_n 0, 1, 0), (10, .aload_n 0, 1, 0), (11, .iconst 1, 1, 0), (12, .aload_n 0, 1, 0), (13, .getfield 495, 3, 1)],
  [(16, .iconst 0, 1, 0), (17, .iconst 0, 1, 0), (18, .invokevirtual 498, 3, 3), (21, .putfield 495, 3, 1), (24, .iconst 1, 1, 0), (25, .ireturn, 1, 6)]]
theorem nn_d346 : ab_dtok prog_14_method_143_code nn_dt346 = true := dw_ok (by decide +kernel)
def nn_dt347 : ab_DT := [[(0, .iconst 4, 1, 0), (1, .aload_n 0, 1, 0), (2, .getfield 489, 3, 1), (5, .imul, 1, 0), (6, .istore 5, 2, 0), (8, .aload_n 0, 1, 0), (9, .getfield 97, 3, 1), (12, .iload 5, 2, 0), (14, .iload_n 1, 1, 0), (15, .iastore, 1, 1)],
  [(16, .aload_n 0, 1, 0), (17, .getfield 97, 3, 1), (20, .iload 5, 2, 0), (22, .iconst 1, 1, 0), (23, .iadd, 1, 0), (24, .iload_n 2, 1, 0), (25, .iastore, 1, 1), (26, .aload_n 0, 1, 0), (27, .getfield 97, 3, 1), (30, .iload 5, 2, 0)],
  [(32, .iconst 2, 1, 0), (33, .iadd, 1, 0), (34, .iload_n 3, 1, 0), (35, .iastore, 1, 1), (36, .aload_n 0, 1, 0), (37, .getfield 97, 3, 1), (40, .iload 5, 2, 0), (42, .iconst 3, 1, 0), (43, .iadd, 1, 0), (44, .iload 4, 2, 0), (46, .iastore, 1, 1), (47, .aload_n 0, 1, 0)],
  [(48, .dup, 1, 0), (49, .getfield 489, 3, 1), (52, .iconst 1, 1, 0), (53, .iadd, 1, 0), (54, .putfield 489, 3, 1), (57, .aload_n 0, 1, 0), (58, .getfield 489, 3, 1), (61, .iconst 1, 1, 0), (62, .isub, 1, 0), (63, .ireturn, 1, 6)]]
theorem nn_d347 : ab_dtok prog_14_method_139_code nn_dt347 = true := dw_ok (by decide +kernel)
def nn_dt348 : ab_DT := [[(0, .aload_n 0, 1, 0), (1, .invokevirtual 199, 3, 3), (4, .ifCond .ne 9, 3, 2), (7, .aload_n 0, 1, 0), (8, .iconst 1, 1, 0), (9, .invokevirtual 168, 3, 3), (12, .ireturn, 1, 6), (13, .aload_n 0, 1, 0), (14, .getfield 25, 3, 1)],
  [(17, .iload_n 2, 1, 0), (18, .iload_n 3, 1, 0), (19, .aload_n 0, 1, 0), (20, .getfield 139, 3, 1), (23, .invokestatic 203, 3, 3), (26, .istore 4, 2, 0), (28, .iload 4, 2, 0), (30, .iconst (-1), 1, 0), (31, .if_icmp .ne 9, 3, 2)],
  [(34, .aload_n 0, 1, 0), (35, .iconst 3, 1, 0), (36, .invokevirtual 168, 3, 3), (39, .ireturn, 1, 6), (40, .aload_n 0, 1, 0), (41, .aload_n 0, 1, 0), (42, .bipush 50, 2, 0), (44, .iload_n 1, 1, 0), (45, .iadd, 1, 0), (46, .iload 4, 2, 0)],
  [(48, .iconst 0, 1, 0), (49, .iconst 0, 1, 0), (50, .invokevirtual 498, 3, 3), (53, .putfield 495, 3, 1), (56, .aload_n 0, 1, 0), (57, .invokevirtual 182, 3, 3), (60, .iconst 1, 1, 0), (61, .ireturn, 1, 6)]]
theorem nn_d348 : ab_dtok prog_14_method_145_code nn_dt348 = true := dw_ok (by decide +kernel)
def nn_dt349 : ab_DT := [[(0, .aload_n 0, 1, 0), (1, .bipush 60, 2, 0), (3, .invokevirtual 185, 3, 3), (6, .ifCond .ne 27, 3, 2), (9, .aload_n 0, 1, 0), (10, .bipush 61, 2, 0), (12, .invokevirtual 185, 3, 3), (15, .ifCond .ne 18, 3, 2)],
  [(18, .aload_n 0, 1, 0), (19, .bipush 62, 2, 0), (21, .invokevirtual 185, 3, 3), (24, .ifCond .ne 9, 3, 2), (27, .aload_n 0, 1, 0), (28, .iconst 1, 1, 0), (29, .invokevirtual 168, 3, 3)],
  [(32, .ireturn, 1, 6), (33, .aload_n 0, 1, 0), (34, .getfield 136, 3, 1), (37, .istore_n 2, 1, 0), (38, .aload_n 0, 1, 0), (39, .invokevirtual 182, 3, 3), (42, .aload_n 0, 1, 0), (43, .iconst 0, 1, 0), (44, .bipush 99, 2, 0), (46, .invokevirtual 210, 3, 3)],
  [(49, .ifCond .ne 5, 3, 2), (52, .iconst 0, 1, 0), (53, .ireturn, 1, 6), (54, .aload_n 0, 1, 0), (55, .aload_n 0, 1, 0), (56, .bipush 50, 2, 0), (58, .iload_n 1, 1, 0), (59, .iadd, 1, 0), (60, .iconst 0, 1, 0), (61, .aload_n 0, 1, 0), (62, .getfield 175, 3, 1)],
  [(65, .iload_n 2, 1, 0), (66, .invokevirtual 498, 3, 3), (69, .putfield 495, 3, 1), (72, .iconst 1, 1, 0), (73, .ireturn, 1, 6)]]
theorem nn_d349 : ab_dtok prog_14_method_146_code nn_dt349 = true := dw_ok (by decide +kernel)
def nn_dt350 : ab_DT := [[(0, .aload_n 0, 1, 0), (1, .iconst 0, 1, 0), (2, .putfield 100, 3, 1), (5, .aload_n 0, 1, 0), (6, .getfield 13, 3, 1), (9, .sipush 232, 3, 0), (12, .iaload, 1, 1), (13, .ifCond .ne 5, 3, 2)],
  [(16, .iconst (-1), 1, 0), (17, .ireturn, 1, 6), (18, .iconst 0, 1, 0), (19, .istore_n 2, 1, 0), (20, .iconst 0, 1, 0), (21, .istore_n 3, 1, 0), (22, .iload_n 3, 1, 0), (23, .aload_n 0, 1, 0), (24, .invokevirtual 261, 3, 3), (27, .if_icmp .ge 38, 3, 2), (30, .aload_n 0, 1, 0), (31, .aload_n 0, 1, 0)],
  [(32, .getfield 13, 3, 1), (35, .sipush 233, 3, 0), (38, .iaload, 1, 1), (39, .iload_n 3, 1, 0), (40, .invokevirtual 525, 3, 3), (43, .ifCond .ne 6, 3, 2), (46, .goto 13, 3, 2)],
  [(49, .iload_n 2, 1, 0), (50, .iload_n 1, 1, 0), (51, .if_icmp .ne 5, 3, 2), (54, .iload_n 3, 1, 0), (55, .ireturn, 1, 6), (56, .iinc 2 1, 3, 0), (59, .iinc 3 1, 3, 0), (62, .goto (-40), 3, 2)],
  [(65, .iload_n 1, 1, 0), (66, .iconst (-1), 1, 0), (67, .if_icmp .ne 7, 3, 2), (70, .iload_n 2, 1, 0), (71, .goto 4, 3, 2), (74, .iconst (-1), 1, 0), (75, .ireturn, 1, 6)]]
theorem nn_d350 : ab_dtok prog_14_method_149_code nn_dt350 = true := dw_ok (by decide +kernel)
def nn_dt351 : ab_DT := [[(0, .sipush 234, 3, 0), (3, .iconst 4, 1, 0), (4, .iload_n 1, 1, 0), (5, .imul, 1, 0), (6, .iadd, 1, 0), (7, .istore_n 3, 1, 0), (8, .aload_n 0, 1, 0), (9, .getfield 13, 3, 1), (12, .iload_n 3, 1, 0), (13, .iconst 1, 1, 0), (14, .iadd, 1, 0), (15, .iaload, 1, 1)],
  [(16, .istore 4, 2, 0), (18, .aload_n 0, 1, 0), (19, .getfield 13, 3, 1), (22, .iload_n 3, 1, 0), (23, .iconst 2, 1, 0), (24, .iadd, 1, 0), (25, .iaload, 1, 1), (26, .istore 5, 2, 0), (28, .aload_n 0, 1, 0), (29, .getfield 13, 3, 1)],
  [(32, .iload_n 3, 1, 0), (33, .iaload, 1, 1), (34, .lookupswitch 170 #[(1, 58), (2, 74), (3, 100), (60, 126), (61, 142), (62, 160)], 58, 5)],
  [],
  [],
  [(92, .aload_n 0, 1, 0), (93, .iload 4, 2, 0), (95, .iload_n 2, 1, 0)],
  [(96, .invokevirtual 525, 3, 3), (99, .ifCond .ne 7, 3, 2), (102, .iconst 1, 1, 0), (103, .goto 4, 3, 2), (106, .iconst 0, 1, 0), (107, .ireturn, 1, 6), (108, .aload_n 0, 1, 0), (109, .iload 4, 2, 0), (111, .iload_n 2, 1, 0)],
  [(112, .invokevirtual 525, 3, 3), (115, .ifCond .eq 17, 3, 2), (118, .aload_n 0, 1, 0), (119, .iload 5, 2, 0), (121, .iload_n 2, 1, 0), (122, .invokevirtual 525, 3, 3), (125, .ifCond .eq 7, 3, 2)],
  [(128, .iconst 1, 1, 0), (129, .goto 4, 3, 2), (132, .iconst 0, 1, 0), (133, .ireturn, 1, 6), (134, .aload_n 0, 1, 0), (135, .iload 4, 2, 0), (137, .iload_n 2, 1, 0), (138, .invokevirtual 525, 3, 3), (141, .ifCond .ne 13, 3, 2)],
  [(144, .aload_n 0, 1, 0), (145, .iload 5, 2, 0), (147, .iload_n 2, 1, 0), (148, .invokevirtual 525, 3, 3), (151, .ifCond .eq 7, 3, 2), (154, .iconst 1, 1, 0), (155, .goto 4, 3, 2), (158, .iconst 0, 1, 0), (159, .ireturn, 1, 6)],
  [(160, .aload_n 0, 1, 0), (161, .getfield 13, 3, 1), (164, .sipush 176, 3, 0), (167, .iload 4, 2, 0), (169, .iadd, 1, 0), (170, .iaload, 1, 1), (171, .iload_n 2, 1, 0), (172, .invokestatic 216, 3, 3), (175, .ireturn, 1, 6)],
  [(176, .aload_n 0, 1, 0), (177, .iload 4, 2, 0), (179, .iload_n 2, 1, 0), (180, .invokevirtual 284, 3, 3), (183, .bipush 9, 2, 0), (185, .if_icmp .ne 7, 3, 2), (188, .iconst 1, 1, 0), (189, .goto 4, 3, 2)],
  [(192, .iconst 0, 1, 0), (193, .ireturn, 1, 6), (194, .aload_n 0, 1, 0), (195, .iload 4, 2, 0), (197, .iload_n 2, 1, 0), (198, .iconst 3, 1, 0), (199, .iconst 0, 1, 0), (200, .invokevirtual 294, 3, 3), (203, .ireturn, 1, 6), (204, .aload_n 0, 1, 0), (205, .iload_n 2, 1, 0), (206, .aload_n 0, 1, 0), (207, .getfield 13, 3, 1)],
  [(210, .iload_n 3, 1, 0), (211, .iaload, 1, 1), (212, .bipush 50, 2, 0), (214, .isub, 1, 0), (215, .bipush 13, 2, 0), (217, .isub, 1, 0), (218, .invokevirtual 277, 3, 3), (221, .istore 6, 2, 0), (223, .aload_n 0, 1, 0)],
  [(224, .getfield 13, 3, 1), (227, .iload_n 3, 1, 0), (228, .iconst 3, 1, 0), (229, .iadd, 1, 0), (230, .iaload, 1, 1), (231, .bipush 60, 2, 0), (233, .if_icmp .ne 18, 3, 2), (236, .iload 6, 2, 0), (238, .iload 5, 2, 0)],
  [(240, .if_icmp .ge 7, 3, 2), (243, .iconst 1, 1, 0), (244, .goto 47, 3, 2), (247, .iconst 0, 1, 0), (248, .goto 43, 3, 2), (251, .aload_n 0, 1, 0), (252, .getfield 13, 3, 1), (255, .iload_n 3, 1, 0)],
  [(256, .iconst 3, 1, 0), (257, .iadd, 1, 0), (258, .iaload, 1, 1), (259, .bipush 61, 2, 0), (261, .if_icmp .ne 18, 3, 2), (264, .iload 6, 2, 0), (266, .iload 5, 2, 0), (268, .if_icmp .ne 7, 3, 2), (271, .iconst 1, 1, 0)],
  [(272, .goto 19, 3, 2), (275, .iconst 0, 1, 0), (276, .goto 15, 3, 2), (279, .iload 6, 2, 0), (281, .iload 5, 2, 0), (283, .if_icmp .le 7, 3, 2), (286, .iconst 1, 1, 0), (287, .goto 4, 3, 2)],
  [(290, .iconst 0, 1, 0), (291, .ireturn, 1, 6)]]
theorem nn_d351 : ab_dtok prog_14_method_148_code nn_dt351 = true := dw_ok (by decide +kernel)
def nn_dt352 : ab_DT := [[(0, .aload_n 0, 1, 0), (1, .iconst 0, 1, 0), (2, .putfield 100, 3, 1), (5, .aload_n 0, 1, 0), (6, .invokevirtual 188, 3, 3), (9, .iload_n 1, 1, 0), (10, .iconst 0, 1, 0), (11, .iconst 1, 1, 0), (12, .invokestatic 171, 3, 3), (15, .ifCond .ne 5, 3, 2)],
  [(18, .iconst 0, 1, 0), (19, .ireturn, 1, 6), (20, .iconst 0, 1, 0), (21, .istore_n 2, 1, 0), (22, .iload_n 2, 1, 0), (23, .sipush 474, 3, 0), (26, .if_icmp .ge 27, 3, 2), (29, .aload_n 0, 1, 0), (30, .getfield 19, 3, 1)],
  [(33, .sipush 474, 3, 0), (36, .iload_n 1, 1, 0), (37, .imul, 1, 0), (38, .iload_n 2, 1, 0), (39, .iadd, 1, 0), (40, .aload_n 0, 1, 0), (41, .getfield 13, 3, 1), (44, .iload_n 2, 1, 0), (45, .iaload, 1, 1), (46, .iastore, 1, 1), (47, .iinc 2 1, 3, 0)],
  [(50, .goto (-28), 3, 2), (53, .iconst 0, 1, 0), (54, .istore_n 2, 1, 0), (55, .iload_n 2, 1, 0), (56, .bipush 20, 2, 0), (58, .if_icmp .ge 26, 3, 2), (61, .aload_n 0, 1, 0), (62, .getfield 32, 3, 1)],
  [(65, .bipush 20, 2, 0), (67, .iload_n 1, 1, 0), (68, .imul, 1, 0), (69, .iload_n 2, 1, 0), (70, .iadd, 1, 0), (71, .aload_n 0, 1, 0), (72, .getfield 25, 3, 1), (75, .iload_n 2, 1, 0), (76, .laload, 1, 1), (77, .lastore, 1, 1), (78, .iinc 2 1, 3, 0)],
  [(81, .goto (-26), 3, 2), (84, .aload_n 0, 1, 0), (85, .getfield 35, 3, 1), (88, .iload_n 1, 1, 0), (89, .iconst 1, 1, 0), (90, .bastore, 1, 1), (91, .iconst 1, 1, 0), (92, .ireturn, 1, 6)]]
theorem nn_d352 : ab_dtok prog_14_method_150_code nn_dt352 = true := dw_ok (by decide +kernel)
def nn_dt353 : ab_DT := [[(0, .aload_n 0, 1, 0), (1, .iconst 0, 1, 0), (2, .putfield 100, 3, 1), (5, .iload_n 1, 1, 0), (6, .iconst 0, 1, 0), (7, .iconst 1, 1, 0), (8, .invokestatic 171, 3, 3), (11, .ifCond .eq 12, 3, 2), (14, .aload_n 0, 1, 0), (15, .getfield 35, 3, 1)],
  [(18, .iload_n 1, 1, 0), (19, .baload, 1, 1), (20, .ifCond .ne 5, 3, 2), (23, .iconst 0, 1, 0), (24, .ireturn, 1, 6), (25, .iconst 0, 1, 0), (26, .istore_n 2, 1, 0), (27, .iload_n 2, 1, 0), (28, .sipush 474, 3, 0), (31, .if_icmp .ge 27, 3, 2)],
  [(34, .aload_n 0, 1, 0), (35, .getfield 13, 3, 1), (38, .iload_n 2, 1, 0), (39, .aload_n 0, 1, 0), (40, .getfield 19, 3, 1), (43, .sipush 474, 3, 0), (46, .iload_n 1, 1, 0), (47, .imul, 1, 0)],
  [(48, .iload_n 2, 1, 0), (49, .iadd, 1, 0), (50, .iaload, 1, 1), (51, .iastore, 1, 1), (52, .iinc 2 1, 3, 0), (55, .goto (-28), 3, 2), (58, .iconst 0, 1, 0), (59, .istore_n 2, 1, 0), (60, .iload_n 2, 1, 0), (61, .bipush 20, 2, 0), (63, .if_icmp .ge 26, 3, 2)],
  [(66, .aload_n 0, 1, 0), (67, .getfield 25, 3, 1), (70, .iload_n 2, 1, 0), (71, .aload_n 0, 1, 0), (72, .getfield 32, 3, 1), (75, .bipush 20, 2, 0), (77, .iload_n 1, 1, 0), (78, .imul, 1, 0), (79, .iload_n 2, 1, 0)],
  [(80, .iadd, 1, 0), (81, .laload, 1, 1), (82, .lastore, 1, 1), (83, .iinc 2 1, 3, 0), (86, .goto (-26), 3, 2), (89, .aload_n 0, 1, 0), (90, .iconst 0, 1, 0), (91, .putfield 258, 3, 1), (94, .iconst 1, 1, 0), (95, .ireturn, 1, 6)]]
theorem nn_d353 : ab_dtok prog_14_method_151_code nn_dt353 = true := dw_ok (by decide +kernel)
def nn_dt354 : ab_DT := [[(0, .aload_n 0, 1, 0), (1, .iconst 0, 1, 0), (2, .putfield 100, 3, 1), (5, .aload_n 0, 1, 0), (6, .invokevirtual 188, 3, 3), (9, .iload_n 1, 1, 0), (10, .tableswitch 65 0 4 #[34, 39, 46, 53, 60], 34, 2)],
  [],
  [(44, .aload_n 0, 1, 0), (45, .invokevirtual 261, 3, 3)],
  [(48, .ireturn, 1, 6), (49, .aload_n 0, 1, 0), (50, .getfield 13, 3, 1), (53, .iconst 1, 1, 0), (54, .iaload, 1, 1), (55, .ireturn, 1, 6), (56, .aload_n 0, 1, 0), (57, .getfield 13, 3, 1), (60, .iconst 2, 1, 0), (61, .iaload, 1, 1), (62, .ireturn, 1, 6), (63, .aload_n 0, 1, 0)],
  [(64, .getfield 13, 3, 1), (67, .iconst 3, 1, 0), (68, .iaload, 1, 1), (69, .ireturn, 1, 6), (70, .aload_n 0, 1, 0), (71, .getfield 103, 3, 1), (74, .ireturn, 1, 6), (75, .iconst (-1), 1, 0), (76, .ireturn, 1, 6)]]
theorem nn_d354 : ab_dtok prog_14_method_152_code nn_dt354 = true := dw_ok (by decide +kernel)
def nn_DT_320 : List ab_DT := [nn_dt320, nn_dt321, nn_dt322, nn_dt323, nn_dt324, nn_dt325, nn_dt326, nn_dt327, nn_dt328, nn_dt329, nn_dt330, nn_dt331, nn_dt332, nn_dt333, nn_dt334, nn_dt335, nn_dt336, nn_dt337, nn_dt338, nn_dt339, nn_dt340, nn_dt341, nn_dt342, nn_dt343, nn_dt344, nn_dt345, nn_dt346, nn_dt347, nn_dt348, nn_dt349, nn_dt350, nn_dt351, nn_dt352, nn_dt353, nn_dt354]
theorem nn_DT_320_ok : ab_dtP nn_MT_320 nn_DT_320 := ⟨nn_d320, nn_d321, nn_d322, nn_d323, nn_d324, nn_d325, nn_d326, nn_d327, nn_d328, nn_d329, nn_d330, nn_d331, nn_d332, nn_d333, nn_d334, nn_d335, nn_d336, nn_d337, nn_d338, nn_d339, nn_d340, nn_d341, nn_d342, nn_d343, nn_d344, nn_d345, nn_d346, nn_d347, nn_d348, nn_d349, nn_d350, nn_d351, nn_d352, nn_d353, nn_d354, trivial⟩
def nn_DT : List ab_DT := nn_DT_0 ++ (nn_DT_40 ++ (nn_DT_80 ++ (nn_DT_120 ++ (nn_DT_160 ++ (nn_DT_200 ++ (nn_DT_240 ++ (nn_DT_280 ++ (nn_DT_320))))))))
theorem nn_DT_all : ab_dtP nn_MT nn_DT := ab_dtP_app nn_DT_0_ok (ab_dtP_app nn_DT_40_ok (ab_dtP_app nn_DT_80_ok (ab_dtP_app nn_DT_120_ok (ab_dtP_app nn_DT_160_ok (ab_dtP_app nn_DT_200_ok (ab_dtP_app nn_DT_240_ok (ab_dtP_app nn_DT_280_ok (nn_DT_320_ok))))))))
theorem nn_DT_ok {n : Nat} {mr : ab_MR} {dt : ab_DT} (h1 : nn_MT[n]? = some mr) (h2 : nn_DT[n]? = some dt) : ab_dtok mr.2.1 dt = true := ab_dtP_get nn_DT_all h1 h2
end
section
/-! a contract by one reading of its nodes -/
def nn_isO (ret : Option FieldType) : Bool := match ret with
  | some (.object _) => true
  | _ => false
theorem nn_isO_ok {ret : Option FieldType} (h : nn_isO ret = true) : ∃ n, ret = some (.object n) := by
  unfold nn_isO at h
  split at h
  · exact ⟨_, rfl⟩
  · cases h
def nn_rkB (rk : Nat) (ret : Option FieldType) : Bool := match rk with
  | 0 => decide (ret = some .int)
  | 1 => decide (ret = some .boolean)
  | 2 => decide (ret = some .long)
  | 3 => nn_isO ret
  | 4 => decide (ret = none)
  | _ => false
theorem nn_rk_ok {rk : Nat} {ret : Option FieldType} (h : nn_rkB rk ret = true) : ab_rkok rk ret := by
  match rk, h with
  | 0, h => exact of_decide_eq_true (p := ret = some .int) h
  | 1, h => exact of_decide_eq_true (p := ret = some .boolean) h
  | 2, h => exact of_decide_eq_true (p := ret = some .long) h
  | 3, h => exact nn_isO_ok h
  | 4, h => exact of_decide_eq_true (p := ret = none) h
def nn_rcB (cl : List vw_C) (sh : List ab_SP) (C : String) (as : List ab_AV) : Bool := match as with
  | (2, k, _) :: _ => (match sh[k]? with
    | some (.inl o) => (match cl[o.1]? with | some q => decide (q.1 = C) | none => false)
    | _ => false)
  | _ => false
theorem nn_rc_ok {cl : List vw_C} {sh : List ab_SP} {C : String} {as0 : List ab_AV} (h : nn_rcB cl sh C as0 = true) : ∃ (k : Nat) (z : Int) (as : List ab_AV) (ci : Nat) (fs : List (Nat × Nat)) (T9 : u_T) (N9 : Nat), as0 = (2, k, z) :: as ∧ sh[k]? = some (.inl (ci, fs)) ∧ cl[ci]? = some (C, T9, N9) := by
  unfold nn_rcB at h
  split at h
  · rename_i k9 z9 as9
    split at h
    · rename_i o9 ho9
      split at h
      · rename_i q9 hq9
        have h := of_decide_eq_true h
        obtain ⟨a, b, c⟩ := q9
        have h : a = C := h
        subst h
        exact ⟨k9, z9, as9, o9.1, o9.2, b, c, rfl, ho9, hq9⟩
      · cases h
    · cases h
  · cases h
noncomputable def nn_ck (cl : List vw_C) (T : ab_RG) (C : ab_CT) (sh : List ab_SP) (MT : List ab_MR) (own : String) (KI KJ : List (Nat × Int)) (PF : ab_PT) (kd : ab_KD) (PS : ab_PS) (PM : ab_PC2) (KS : ab_KS) (lev mn fuel : Nat) (sp HD : List Nat) (HN : ab_HH) (mu : ab_M3) (ct : ab_CN) (NS : List ab_ND) : Bool := match MT[mn]?, nn_DT[mn]? with
  | some mr, some dt => (1 : Nat).ble ct.2.1.length && (!mr.2.2.2.2.2.1 || nn_rcB cl sh mr.1.cls ct.1) && (ab_cat ct.1).ble mr.2.2.1 && nn_rkB mr.2.2.2.2.2.2 mr.2.2.2.1 && plainName mr.1.cls && decide (mr.1.cls = own) &&
    (((0, (ab_en0 0 ct.1, [], ct.2.1, ct.2.2.1, ct.2.2.2.1, []), mu) : ab_ND) :: NS).all (fz_cn cl T C sh MT KI KJ PF kd PS PM KS lev 0 dt mr.2.2.1 ct.2.1.length ct.2.2.2.2 mr.2.2.2.2.2.2 sp HD HN [] (((0, (ab_en0 0 ct.1, [], ct.2.1, ct.2.2.1, ct.2.2.2.1, []), mu) : ab_ND) :: NS) fuel)
  | _, _ => false
theorem nn_hold {l : Launch} {cy : Nat → ClassId} {ad wr cr : Nat → Nat} {D : va_G} {cl : List vw_C} {sh : List ab_SP} {T : ab_RG} {C : ab_CT} {NW : ab_NW} {own : String} {KI KJ : List (Nat × Int)} {PF : ab_PT} {kd : ab_KD} {PS : ab_PS} {PM : ab_PC2} {KS : ab_KS} {lev mn fuel : Nat} {sp HD : List Nat} {HN : ab_HH} {mu : ab_M3} {ct : ab_CN} {NS : List ab_ND}
    (hinj : ∀ i j, i < sh.length → j < sh.length → ad i = ad j → i = j) (hcode : ∀ mr ∈ nn_MT, goodWord (Jvm.Cond.code mr.1 mr.2.1 mr.2.2.1 mr.2.2.2.1) = true)
    (hKI : ∀ q ∈ KI, Jvm.Cond.constant own q.1 (Int32.ofInt q.2) ∈ nn_TT) (hKJ : ∀ q ∈ KJ, Jvm.Cond.constantLong own q.1 (Int64.ofInt q.2) ∈ nn_TT) (hPF : ∀ q ∈ PF, ab_fok cl nn_TT own q) (hPS : ∀ q ∈ PS, ab_psok nn_TT kd own q) (hPM : ∀ q ∈ PM, ab_mlk nn_MT nn_TT NW own q)
    (hKS : ∀ q ∈ KS, ab_hold l cy ad wr cr D cl sh T C NW kd nn_TT nn_MT q) (h : nn_ck cl T C sh nn_MT own KI KJ PF kd PS PM KS lev mn fuel sp HD HN mu ct NS = true) : ab_hold l cy ad wr cr D cl sh T C NW kd nn_TT nn_MT (mn, lev, ct) := by
  intro mr hmr
  replace hmr : nn_MT[mn]? = some mr := hmr
  unfold nn_ck at h
  rw [fz_cn_eq] at h
  rw [hmr] at h
  split at h
  · rename_i mr9 dt e1 e2
    cases e1
    rw [Bool.and_eq_true, Bool.and_eq_true, Bool.and_eq_true, Bool.and_eq_true, Bool.and_eq_true, Bool.and_eq_true, Bool.or_eq_true, Bool.not_eq_true', decide_eq_true_eq] at h
    obtain ⟨⟨⟨⟨⟨⟨h1, h2⟩, h3⟩, h4⟩, h5⟩, h6⟩, h7⟩ := h
    refine ⟨Nat.le_of_ble_eq_true h1, fun g => ?_, ?_⟩
    · rcases h2 with h2 | h2
      · rw [g] at h2; cases h2
      · exact nn_rc_ok h2
    · exact ab_met mr ct hinj nn_TT_good hcode hKI hKJ hPF hPS hPM h5 h6 (nn_rk_ok h4) hKS h3 List.mem_cons_self (fun nd hnd => List.all_eq_true.mp h7 nd hnd) (nn_DT_ok hmr e2)
  · cases h
end
