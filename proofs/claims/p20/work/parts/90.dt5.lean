def nn_dt200 : ab_DT := [[(0, .iload_n 1, 1, 0), (1, .invokestatic 353, 3, 3), (4, .ifCond .eq 33, 3, 2), (7, .iload_n 2, 1, 0), (8, .invokestatic 353, 3, 3), (11, .ifCond .eq 26, 3, 2), (14, .iload_n 3, 1, 0), (15, .invokestatic 232, 3, 3)],
  [(18, .ifCond .eq 19, 3, 2), (21, .iload 4, 2, 0), (23, .invokestatic 232, 3, 3), (26, .ifCond .eq 11, 3, 2), (29, .iload 5, 2, 0), (31, .invokestatic 146, 3, 3)],
  [(34, .ifCond .ne 13, 3, 2), (37, .new 211, 3, 9), (40, .dup, 1, 0), (41, .ldc 213, 2, 5), (43, .invokespecial 215, 3, 9), (46, .athrow, 1, 9), (47, .aload_n 0, 1, 0)],
  [(48, .iload_n 3, 1, 0), (49, .iload 4, 2, 0), (51, .iconst 1, 1, 0), (52, .invokevirtual 356, 3, 3), (55, .aload_n 0, 1, 0), (56, .iload_n 1, 1, 0), (57, .iload_n 2, 1, 0), (58, .invokevirtual 360, 3, 3), (61, .i2l, 1, 0), (62, .ldc2_w 363, 3, 0)],
  [(65, .iload 5, 2, 0), (67, .invokestatic 224, 3, 3), (70, .lreturn, 1, 6)]]
theorem nn_d200 : ab_dtok prog_1_method_37_code nn_dt200 = true := dw_ok (by decide +kernel)
def nn_dt201 : ab_DT := [[(0, .iload_n 1, 1, 0), (1, .invokestatic 146, 3, 3), (4, .ifCond .eq 30, 3, 2), (7, .aload_n 0, 1, 0), (8, .getfield 48, 3, 1), (11, .invokevirtual 390, 3, 3), (14, .ifCond .eq 20, 3, 2)],
  [(17, .aload_n 0, 1, 0), (18, .getfield 48, 3, 1), (21, .getfield 393, 3, 1), (24, .aload_n 0, 1, 0), (25, .getfield 19, 3, 1), (28, .getfield 132, 3, 1), (31, .if_icmp .eq 14, 3, 2)],
  [(34, .new 211, 3, 9), (37, .dup, 1, 0), (38, .ldc_w 394, 3, 5), (41, .invokespecial 215, 3, 9), (44, .athrow, 1, 9), (45, .aload_n 0, 1, 0), (46, .aload_n 0, 1, 0), (47, .getfield 48, 3, 1)],
  [(50, .invokevirtual 396, 3, 3), (53, .aload_n 0, 1, 0), (54, .getfield 48, 3, 1), (57, .invokevirtual 399, 3, 3), (60, .aload_n 0, 1, 0), (61, .getfield 19, 3, 1)],
  [(64, .aload_n 0, 1, 0), (65, .getfield 48, 3, 1), (68, .getfield 402, 3, 1), (71, .invokevirtual 169, 3, 3), (74, .invokevirtual 228, 3, 3), (77, .lstore_n 2, 1, 0), (78, .lload_n 2, 1, 0), (79, .ldc2_w 222, 3, 0)],
  [(82, .iload_n 1, 1, 0), (83, .invokestatic 224, 3, 3), (86, .lreturn, 1, 6)]]
theorem nn_d201 : ab_dtok prog_1_method_49_code nn_dt201 = true := dw_ok (by decide +kernel)
def nn_dt202 : ab_DT := [[(0, .aload_n 0, 1, 0), (1, .getfield 94, 3, 1), (4, .ifCond .eq 26, 3, 2), (7, .aload_n 0, 1, 0), (8, .getfield 18, 3, 1), (11, .iconst 0, 1, 0), (12, .iaload, 1, 1), (13, .ifCond .ne 17, 3, 2)],
  [(16, .aload_n 0, 1, 0), (17, .getfield 18, 3, 1), (20, .iconst 3, 1, 0), (21, .iaload, 1, 1), (22, .iconst (-1), 1, 0), (23, .if_icmp .eq 7, 3, 2), (26, .iconst 1, 1, 0), (27, .goto 4, 3, 2), (30, .iconst 0, 1, 0), (31, .ireturn, 1, 6)]]
theorem nn_d202 : ab_dtok prog_4_method_6_code nn_dt202 = true := dw_ok (by decide +kernel)
def nn_dt203 : ab_DT := [[(0, .aload_n 0, 1, 0), (1, .getfield 18, 3, 1), (4, .iconst 2, 1, 0), (5, .iaload, 1, 1), (6, .ireturn, 1, 6)]]
theorem nn_d203 : ab_dtok prog_4_method_7_code nn_dt203 = true := dw_ok (by decide +kernel)
def nn_dt204 : ab_DT := [[(0, .aload_n 0, 1, 0), (1, .getfield 18, 3, 1), (4, .iconst 1, 1, 0), (5, .iaload, 1, 1), (6, .ireturn, 1, 6)]]
theorem nn_d204 : ab_dtok prog_4_method_8_code nn_dt204 = true := dw_ok (by decide +kernel)
def nn_dt205 : ab_DT := [[(0, .aload_n 0, 1, 0), (1, .iconst 0, 1, 0), (2, .putfield 100, 3, 1), (5, .aload_n 0, 1, 0), (6, .getfield 103, 3, 1), (9, .bipush 20, 2, 0), (11, .iadd, 1, 0), (12, .sipush 940, 3, 0), (15, .if_icmp .le 5, 3, 2)],
  [(18, .iconst (-1), 1, 0), (19, .ireturn, 1, 6), (20, .aload_n 0, 1, 0), (21, .iload_n 1, 1, 0), (22, .invokevirtual 106, 3, 3), (25, .aload_n 0, 1, 0), (26, .iload_n 2, 1, 0), (27, .invokevirtual 106, 3, 3), (30, .aload_n 0, 1, 0), (31, .iload_n 3, 1, 0)],
  [(32, .invokevirtual 106, 3, 3), (35, .aload_n 0, 1, 0), (36, .iload 4, 2, 0), (38, .invokevirtual 106, 3, 3), (41, .aload_n 0, 1, 0), (42, .iload 5, 2, 0), (44, .invokevirtual 106, 3, 3), (47, .aload_n 0, 1, 0)],
  [(48, .getfield 103, 3, 1), (51, .ireturn, 1, 6)]]
theorem nn_d205 : ab_dtok prog_14_method_5_code nn_dt205 = true := dw_ok (by decide +kernel)
def nn_dt206 : ab_DT := [[(0, .bipush 24, 2, 0), (2, .istore_n 2, 1, 0), (3, .iload_n 2, 1, 0), (4, .ifCond .lt 35, 3, 2), (7, .aload_n 0, 1, 0), (8, .getfield 7, 3, 1), (11, .aload_n 0, 1, 0), (12, .getfield 103, 3, 1), (15, .iload_n 1, 1, 0)],
  [(16, .iload_n 2, 1, 0), (17, .iushr, 1, 0), (18, .sipush 255, 3, 0), (21, .iand, 1, 0), (22, .iastore, 1, 1), (23, .aload_n 0, 1, 0), (24, .dup, 1, 0), (25, .getfield 103, 3, 1), (28, .iconst 1, 1, 0), (29, .iadd, 1, 0), (30, .putfield 103, 3, 1)],
  [(33, .iinc 2 (-8), 3, 0), (36, .goto (-33), 3, 2), (39, .return_, 1, 6)]]
theorem nn_d206 : ab_dtok prog_14_method_4_code nn_dt206 = true := dw_ok (by decide +kernel)
def nn_dt207 : ab_DT := [[(0, .aload_n 0, 1, 0), (1, .iconst 0, 1, 0), (2, .putfield 100, 3, 1), (5, .iload_n 1, 1, 0), (6, .ifCond .lt 11, 3, 2), (9, .iload_n 1, 1, 0), (10, .aload_n 0, 1, 0), (11, .getfield 103, 3, 1), (14, .if_icmp .le 5, 3, 2)],
  [(17, .iconst 0, 1, 0), (18, .ireturn, 1, 6), (19, .aload_n 0, 1, 0), (20, .iload_n 1, 1, 0), (21, .putfield 103, 3, 1), (24, .iconst 1, 1, 0), (25, .ireturn, 1, 6)]]
theorem nn_d207 : ab_dtok prog_14_method_6_code nn_dt207 = true := dw_ok (by decide +kernel)
def nn_dt208 : ab_DT := [[(0, .aload_n 0, 1, 0), (1, .sipush 900, 3, 0), (4, .invokevirtual 249, 3, 3), (7, .iconst 0, 1, 0), (8, .istore_n 1, 1, 0), (9, .iload_n 1, 1, 0), (10, .sipush 232, 3, 0), (13, .if_icmp .ge 16, 3, 2)],
  [(16, .aload_n 0, 1, 0), (17, .getfield 16, 3, 1), (20, .iload_n 1, 1, 0), (21, .iconst 0, 1, 0), (22, .iastore, 1, 1), (23, .iinc 1 1, 3, 0), (26, .goto (-17), 3, 2), (29, .aload_n 0, 1, 0), (30, .getfield 16, 3, 1)],
  [(33, .iconst 3, 1, 0), (34, .bipush 9, 2, 0), (36, .iastore, 1, 1), (37, .aload_n 0, 1, 0), (38, .iconst 0, 1, 0), (39, .putfield 219, 3, 1), (42, .aload_n 0, 1, 0), (43, .iconst 0, 1, 0), (44, .putfield 222, 3, 1), (47, .iconst 0, 1, 0)],
  [(48, .istore_n 1, 1, 0), (49, .iload_n 1, 1, 0), (50, .iconst 5, 1, 0), (51, .if_icmp .ge 16, 3, 2), (54, .aload_n 0, 1, 0), (55, .getfield 39, 3, 1), (58, .iload_n 1, 1, 0), (59, .iconst 0, 1, 0), (60, .iastore, 1, 1), (61, .iinc 1 1, 3, 0)],
  [(64, .goto (-15), 3, 2), (67, .iconst 0, 1, 0), (68, .istore_n 1, 1, 0), (69, .aload_n 0, 1, 0), (70, .getfield 126, 3, 1), (73, .ifCond .eq 23, 3, 2), (76, .aload_n 0, 1, 0), (77, .invokevirtual 252, 3, 3)],
  [(80, .ifCond .ne 10, 3, 2), (83, .iconst (-1), 1, 0), (84, .aload_n 0, 1, 0), (85, .getfield 165, 3, 1), (88, .isub, 1, 0), (89, .ireturn, 1, 6), (90, .iinc 1 1, 3, 0), (93, .goto (-24), 3, 2)],
  [(96, .aload_n 0, 1, 0), (97, .dup, 1, 0), (98, .getfield 255, 3, 1), (101, .iconst 1, 1, 0), (102, .iadd, 1, 0), (103, .putfield 255, 3, 1), (106, .aload_n 0, 1, 0), (107, .getfield 16, 3, 1), (110, .iconst 4, 1, 0), (111, .aload_n 0, 1, 0)],
  [(112, .getfield 255, 3, 1), (115, .iastore, 1, 1), (116, .iconst 0, 1, 0), (117, .istore_n 2, 1, 0), (118, .iload_n 2, 1, 0), (119, .sipush 474, 3, 0), (122, .if_icmp .ge 32, 3, 2), (125, .aload_n 0, 1, 0), (126, .getfield 13, 3, 1)],
  [(129, .iload_n 2, 1, 0), (130, .iload_n 2, 1, 0), (131, .sipush 232, 3, 0), (134, .if_icmp .ge 12, 3, 2), (137, .aload_n 0, 1, 0), (138, .getfield 16, 3, 1), (141, .iload_n 2, 1, 0), (142, .iaload, 1, 1), (143, .goto 4, 3, 2)],
  [(146, .iconst 0, 1, 0), (147, .iastore, 1, 1), (148, .iinc 2 1, 3, 0), (151, .goto (-33), 3, 2), (154, .iconst 0, 1, 0), (155, .istore_n 2, 1, 0), (156, .iload_n 2, 1, 0), (157, .bipush 20, 2, 0), (159, .if_icmp .ge 21, 3, 2)],
  [(162, .aload_n 0, 1, 0), (163, .getfield 25, 3, 1), (166, .iload_n 2, 1, 0), (167, .aload_n 0, 1, 0), (168, .getfield 29, 3, 1), (171, .iload_n 2, 1, 0), (172, .laload, 1, 1), (173, .lastore, 1, 1), (174, .iinc 2 1, 3, 0)],
  [(177, .goto (-21), 3, 2), (180, .aload_n 0, 1, 0), (181, .iconst 0, 1, 0), (182, .putfield 258, 3, 1), (185, .iload_n 1, 1, 0), (186, .ireturn, 1, 6)]]
theorem nn_d208 : ab_dtok prog_14_method_39_code nn_dt208 = true := dw_ok (by decide +kernel)
def nn_dt209 : ab_DT := [[(0, .aload_n 0, 1, 0), (1, .iconst 0, 1, 0), (2, .putfield 100, 3, 1), (5, .aload_n 0, 1, 0), (6, .invokevirtual 188, 3, 3), (9, .aload_n 0, 1, 0), (10, .aload_n 0, 1, 0), (11, .invokevirtual 191, 3, 3), (14, .putfield 114, 3, 1)],
  [(17, .aload_n 0, 1, 0), (18, .iload_n 1, 1, 0), (19, .putfield 123, 3, 1), (22, .aload_n 0, 1, 0), (23, .iconst 0, 1, 0), (24, .putfield 162, 3, 1), (27, .aload_n 0, 1, 0), (28, .iconst 0, 1, 0), (29, .putfield 117, 3, 1)],
  [(32, .aload_n 0, 1, 0), (33, .invokevirtual 182, 3, 3), (36, .return_, 1, 6)]]
theorem nn_d209 : ab_dtok prog_14_method_27_code nn_dt209 = true := dw_ok (by decide +kernel)
def nn_dt210 : ab_DT := [[(0, .aload_n 0, 1, 0), (1, .getfield 195, 3, 1), (4, .ifCond .eq 4, 3, 2), (7, .return_, 1, 6), (8, .aload_n 0, 1, 0), (9, .iconst 1, 1, 0), (10, .putfield 195, 3, 1), (13, .aload_n 0, 1, 0), (14, .getfield 13, 3, 1)],
  [(17, .iconst 3, 1, 0), (18, .bipush 9, 2, 0), (20, .iastore, 1, 1), (21, .return_, 1, 6)]]
theorem nn_d210 : ab_dtok prog_14_method_28_code nn_dt210 = true := dw_ok (by decide +kernel)
def nn_dt211 : ab_DT := [[(0, .aload_n 0, 1, 0), (1, .getfield 103, 3, 1), (4, .istore_n 1, 1, 0), (5, .aload_n 0, 1, 0), (6, .iconst 0, 1, 0), (7, .putfield 103, 3, 1), (10, .iload_n 1, 1, 0), (11, .ireturn, 1, 6)]]
theorem nn_d211 : ab_dtok prog_14_method_7_code nn_dt211 = true := dw_ok (by decide +kernel)
def nn_dt212 : ab_DT := [[(0, .aload_n 0, 1, 0), (1, .getfield 117, 3, 1), (4, .aload_n 0, 1, 0), (5, .getfield 114, 3, 1), (8, .if_icmp .ge 44, 3, 2), (11, .aload_n 0, 1, 0), (12, .getfield 7, 3, 1), (15, .aload_n 0, 1, 0)],
  [(16, .getfield 117, 3, 1), (19, .iaload, 1, 1), (20, .bipush 32, 2, 0), (22, .if_icmp .eq 17, 3, 2), (25, .aload_n 0, 1, 0), (26, .getfield 7, 3, 1), (29, .aload_n 0, 1, 0), (30, .getfield 117, 3, 1)],
  [(33, .iaload, 1, 1), (34, .bipush 10, 2, 0), (36, .if_icmp .ne 16, 3, 2), (39, .aload_n 0, 1, 0), (40, .dup, 1, 0), (41, .getfield 117, 3, 1), (44, .iconst 1, 1, 0), (45, .iadd, 1, 0), (46, .putfield 117, 3, 1)],
  [(49, .goto (-49), 3, 2), (52, .aload_n 0, 1, 0), (53, .aload_n 0, 1, 0), (54, .getfield 117, 3, 1), (57, .putfield 120, 3, 1), (60, .aload_n 0, 1, 0), (61, .getfield 114, 3, 1)],
  [(64, .aload_n 0, 1, 0), (65, .getfield 123, 3, 1), (68, .if_icmp .le 28, 3, 2), (71, .aload_n 0, 1, 0), (72, .getfield 120, 3, 1), (75, .aload_n 0, 1, 0), (76, .getfield 123, 3, 1), (79, .if_icmp .lt 17, 3, 2)],
  [(82, .aload_n 0, 1, 0), (83, .aload_n 0, 1, 0), (84, .getfield 123, 3, 1), (87, .putfield 120, 3, 1), (90, .aload_n 0, 1, 0), (91, .iconst 1, 1, 0), (92, .putfield 126, 3, 1), (95, .return_, 1, 6)],
  [(96, .aload_n 0, 1, 0), (97, .getfield 117, 3, 1), (100, .aload_n 0, 1, 0), (101, .getfield 114, 3, 1), (104, .if_icmp .lt 9, 3, 2), (107, .aload_n 0, 1, 0), (108, .iconst 0, 1, 0), (109, .putfield 126, 3, 1)],
  [(112, .return_, 1, 6), (113, .aload_n 0, 1, 0), (114, .getfield 7, 3, 1), (117, .aload_n 0, 1, 0), (118, .getfield 117, 3, 1), (121, .iaload, 1, 1), (122, .istore_n 1, 1, 0), (123, .iload_n 1, 1, 0), (124, .invokestatic 129, 3, 3), (127, .ifCond .ne 71, 3, 2)],
  [(130, .iload_n 1, 1, 0), (131, .invokestatic 133, 3, 3), (134, .ifCond .ne 64, 3, 2), (137, .aload_n 0, 1, 0), (138, .iload_n 1, 1, 0), (139, .bipush 59, 2, 0), (141, .if_icmp .eq 33, 3, 2)],
  [(144, .iload_n 1, 1, 0), (145, .bipush 60, 2, 0), (147, .if_icmp .eq 27, 3, 2), (150, .iload_n 1, 1, 0), (151, .bipush 61, 2, 0), (153, .if_icmp .eq 21, 3, 2), (156, .iload_n 1, 1, 0), (157, .bipush 62, 2, 0), (159, .if_icmp .eq 15, 3, 2)],
  [(162, .iload_n 1, 1, 0), (163, .bipush 40, 2, 0), (165, .if_icmp .eq 9, 3, 2), (168, .iload_n 1, 1, 0), (169, .bipush 41, 2, 0), (171, .if_icmp .ne 7, 3, 2), (174, .iconst 4, 1, 0), (175, .goto 4, 3, 2)],
  [(178, .iconst 1, 1, 0), (179, .putfield 126, 3, 1), (182, .aload_n 0, 1, 0), (183, .iload_n 1, 1, 0), (184, .putfield 136, 3, 1), (187, .aload_n 0, 1, 0), (188, .dup, 1, 0), (189, .getfield 117, 3, 1)],
  [(192, .iconst 1, 1, 0), (193, .iadd, 1, 0), (194, .putfield 117, 3, 1), (197, .return_, 1, 6), (198, .iload_n 1, 1, 0), (199, .invokestatic 129, 3, 3), (202, .istore_n 2, 1, 0), (203, .iconst 1, 1, 0), (204, .istore_n 3, 1, 0), (205, .aload_n 0, 1, 0), (206, .lconst 0, 1, 0), (207, .putfield 139, 3, 1)],
  [(210, .aload_n 0, 1, 0), (211, .iconst 0, 1, 0), (212, .putfield 143, 3, 1), (215, .aload_n 0, 1, 0), (216, .aload_n 0, 1, 0), (217, .getfield 117, 3, 1), (220, .invokevirtual 146, 3, 3), (223, .invokestatic 129, 3, 3)],
  [(226, .ifCond .ne 17, 3, 2), (229, .aload_n 0, 1, 0), (230, .aload_n 0, 1, 0), (231, .getfield 117, 3, 1), (234, .invokevirtual 146, 3, 3), (237, .invokestatic 133, 3, 3)],
  [(240, .ifCond .eq 110, 3, 2), (243, .aload_n 0, 1, 0), (244, .getfield 7, 3, 1), (247, .aload_n 0, 1, 0), (248, .getfield 117, 3, 1), (251, .iaload, 1, 1), (252, .istore 4, 2, 0), (254, .iload_n 3, 1, 0), (255, .ifCond .eq 16, 3, 2)],
  [(258, .iload 4, 2, 0), (260, .invokestatic 129, 3, 3), (263, .iload_n 2, 1, 0), (264, .if_icmp .ne 7, 3, 2), (267, .iconst 1, 1, 0), (268, .goto 4, 3, 2), (271, .iconst 0, 1, 0)],
  [(272, .istore_n 3, 1, 0), (273, .aload_n 0, 1, 0), (274, .getfield 117, 3, 1), (277, .aload_n 0, 1, 0), (278, .getfield 120, 3, 1), (281, .isub, 1, 0), (282, .bipush 7, 2, 0), (284, .if_icmp .ge 23, 3, 2), (287, .aload_n 0, 1, 0)],
  [(288, .ldc2_w 150, 3, 0), (291, .aload_n 0, 1, 0), (292, .getfield 139, 3, 1), (295, .lmul, 1, 0), (296, .iload 4, 2, 0), (298, .i2l, 1, 0), (299, .ladd, 1, 0), (300, .ldc2_w 152, 3, 0), (303, .lsub, 1, 0)],
  [(304, .putfield 139, 3, 1), (307, .aload_n 0, 1, 0), (308, .getfield 117, 3, 1), (311, .aload_n 0, 1, 0), (312, .getfield 120, 3, 1), (315, .isub, 1, 0), (316, .iconst 2, 1, 0), (317, .if_icmp .ge 20, 3, 2)],
  [(320, .aload_n 0, 1, 0), (321, .bipush 10, 2, 0), (323, .aload_n 0, 1, 0), (324, .getfield 143, 3, 1), (327, .imul, 1, 0), (328, .iload 4, 2, 0), (330, .iadd, 1, 0), (331, .bipush 48, 2, 0), (333, .isub, 1, 0), (334, .putfield 143, 3, 1)],
  [(337, .aload_n 0, 1, 0), (338, .dup, 1, 0), (339, .getfield 117, 3, 1), (342, .iconst 1, 1, 0), (343, .iadd, 1, 0), (344, .putfield 117, 3, 1), (347, .goto (-132), 3, 2), (350, .aload_n 0, 1, 0), (351, .iload_n 3, 1, 0)],
  [(352, .ifCond .eq 25, 3, 2), (355, .aload_n 0, 1, 0), (356, .getfield 117, 3, 1), (359, .aload_n 0, 1, 0), (360, .getfield 120, 3, 1), (363, .isub, 1, 0), (364, .iload_n 2, 1, 0), (365, .ifCond .eq 8, 3, 2)],
  [(368, .bipush 7, 2, 0), (370, .goto 4, 3, 2), (373, .iconst 2, 1, 0), (374, .if_icmp .le 7, 3, 2), (377, .iconst 1, 1, 0), (378, .goto 12, 3, 2), (381, .iload_n 2, 1, 0), (382, .ifCond .eq 7, 3, 2)],
  [(385, .iconst 2, 1, 0), (386, .goto 4, 3, 2), (389, .iconst 3, 1, 0), (390, .putfield 126, 3, 1), (393, .return_, 1, 6)]]
theorem nn_d212 : ab_dtok prog_14_method_17_code nn_dt212 = true := dw_ok (by decide +kernel)
def nn_dt213 : ab_DT := [[(0, .iload_n 0, 1, 0), (1, .bipush 97, 2, 0), (3, .if_icmp .lt 13, 3, 2), (6, .iload_n 0, 1, 0), (7, .bipush 122, 2, 0), (9, .if_icmp .gt 7, 3, 2), (12, .iconst 1, 1, 0), (13, .goto 4, 3, 2)],
  [(16, .iconst 0, 1, 0), (17, .ireturn, 1, 6)]]
theorem nn_d213 : ab_dtok prog_14_method_16_code nn_dt213 = true := dw_ok (by decide +kernel)
def nn_dt214 : ab_DT := [[(0, .iload_n 0, 1, 0), (1, .bipush 48, 2, 0), (3, .if_icmp .lt 13, 3, 2), (6, .iload_n 0, 1, 0), (7, .bipush 57, 2, 0), (9, .if_icmp .gt 7, 3, 2), (12, .iconst 1, 1, 0), (13, .goto 4, 3, 2)],
  [(16, .iconst 0, 1, 0), (17, .ireturn, 1, 6)]]
theorem nn_d214 : ab_dtok prog_14_method_15_code nn_dt214 = true := dw_ok (by decide +kernel)
def nn_dt215 : ab_DT := [[(0, .iload_n 1, 1, 0), (1, .aload_n 0, 1, 0), (2, .getfield 114, 3, 1), (5, .if_icmp .ge 12, 3, 2), (8, .aload_n 0, 1, 0), (9, .getfield 7, 3, 1), (12, .iload_n 1, 1, 0), (13, .iaload, 1, 1), (14, .goto 4, 3, 2)],
  [(17, .iconst 0, 1, 0), (18, .ireturn, 1, 6)]]
theorem nn_d215 : ab_dtok prog_14_method_14_code nn_dt215 = true := dw_ok (by decide +kernel)
def nn_dt216 : ab_DT := [[(0, .aload_n 0, 1, 0), (1, .iconst 0, 1, 0), (2, .invokevirtual 225, 3, 3), (5, .ifCond .eq 11, 3, 2), (8, .aload_n 0, 1, 0), (9, .invokevirtual 228, 3, 3), (12, .istore_n 1, 1, 0), (13, .goto 88, 3, 2)],
  [(16, .aload_n 0, 1, 0), (17, .iconst 1, 1, 0), (18, .invokevirtual 225, 3, 3), (21, .ifCond .eq 11, 3, 2), (24, .aload_n 0, 1, 0), (25, .invokevirtual 231, 3, 3), (28, .istore_n 1, 1, 0), (29, .goto 72, 3, 2)],
  [(32, .aload_n 0, 1, 0), (33, .iconst 2, 1, 0), (34, .invokevirtual 225, 3, 3), (37, .ifCond .eq 11, 3, 2), (40, .aload_n 0, 1, 0), (41, .invokevirtual 234, 3, 3), (44, .istore_n 1, 1, 0), (45, .goto 56, 3, 2)],
  [(48, .aload_n 0, 1, 0), (49, .iconst 3, 1, 0), (50, .invokevirtual 225, 3, 3), (53, .ifCond .eq 11, 3, 2), (56, .aload_n 0, 1, 0), (57, .invokevirtual 237, 3, 3), (60, .istore_n 1, 1, 0), (61, .goto 40, 3, 2)],
  [(64, .aload_n 0, 1, 0), (65, .iconst 4, 1, 0), (66, .invokevirtual 225, 3, 3), (69, .ifCond .eq 11, 3, 2), (72, .aload_n 0, 1, 0), (73, .invokevirtual 240, 3, 3), (76, .istore_n 1, 1, 0), (77, .goto 24, 3, 2)],
  [(80, .aload_n 0, 1, 0), (81, .iconst 5, 1, 0), (82, .invokevirtual 225, 3, 3), (85, .ifCond .eq 10, 3, 2), (88, .aload_n 0, 1, 0), (89, .invokevirtual 243, 3, 3), (92, .goto 8, 3, 2), (95, .aload_n 0, 1, 0)],
  [(96, .iconst 1, 1, 0), (97, .invokevirtual 168, 3, 3), (100, .istore_n 1, 1, 0), (101, .iload_n 1, 1, 0), (102, .ifCond .eq 14, 3, 2), (105, .aload_n 0, 1, 0), (106, .invokevirtual 246, 3, 3), (109, .ifCond .eq 7, 3, 2)],
  [(112, .iconst 1, 1, 0), (113, .goto 4, 3, 2), (116, .iconst 0, 1, 0), (117, .ireturn, 1, 6)]]
theorem nn_d216 : ab_dtok prog_14_method_38_code nn_dt216 = true := dw_ok (by decide +kernel)
def nn_dt217 : ab_DT := [[(0, .aload_n 0, 1, 0), (1, .getfield 126, 3, 1), (4, .iconst 2, 1, 0), (5, .if_icmp .ne 19, 3, 2), (8, .aload_n 0, 1, 0), (9, .getfield 139, 3, 1), (12, .iload_n 1, 1, 0), (13, .invokestatic 158, 3, 3)],
  [(16, .lcmp, 1, 2), (17, .ifCond .ne 7, 3, 2), (20, .iconst 1, 1, 0), (21, .goto 4, 3, 2), (24, .iconst 0, 1, 0), (25, .ireturn, 1, 6)]]
theorem nn_d217 : ab_dtok prog_14_method_20_code nn_dt217 = true := dw_ok (by decide +kernel)
def nn_dt218 : ab_DT := [[(0, .iload_n 0, 1, 0), (1, .tableswitch 300 0 15 #[79, 93, 107, 123, 138, 152, 166, 180, 192, 205, 218, 230, 244, 258, 273, 287], 79, 2)],
  [],
  [],
  [],
  [],
  [(80, .bipush 116, 2, 0), (82, .bipush 117, 2, 0), (84, .bipush 110, 2, 0), (86, .bipush 101, 2, 0), (88, .iconst 0, 1, 0), (89, .iconst 0, 1, 0), (90, .invokestatic 154, 3, 3), (93, .lreturn, 1, 6), (94, .bipush 99, 2, 0)],
  [(96, .bipush 108, 2, 0), (98, .bipush 117, 2, 0), (100, .bipush 101, 2, 0), (102, .iconst 0, 1, 0), (103, .iconst 0, 1, 0), (104, .invokestatic 154, 3, 3), (107, .lreturn, 1, 6), (108, .bipush 112, 2, 0), (110, .bipush 101, 2, 0)],
  [(112, .bipush 114, 2, 0), (114, .bipush 115, 2, 0), (116, .bipush 111, 2, 0), (118, .bipush 110, 2, 0), (120, .invokestatic 154, 3, 3), (123, .lreturn, 1, 6), (124, .bipush 107, 2, 0), (126, .bipush 110, 2, 0)],
  [(128, .bipush 111, 2, 0), (130, .bipush 119, 2, 0), (132, .bipush 115, 2, 0), (134, .iconst 0, 1, 0), (135, .invokestatic 154, 3, 3), (138, .lreturn, 1, 6), (139, .bipush 100, 2, 0), (141, .bipush 97, 2, 0), (143, .bipush 114, 2, 0)],
  [(145, .bipush 101, 2, 0), (147, .iconst 0, 1, 0), (148, .iconst 0, 1, 0), (149, .invokestatic 154, 3, 3), (152, .lreturn, 1, 6), (153, .bipush 102, 2, 0), (155, .bipush 114, 2, 0), (157, .bipush 111, 2, 0), (159, .bipush 109, 2, 0)],
  [(161, .iconst 0, 1, 0), (162, .iconst 0, 1, 0), (163, .invokestatic 154, 3, 3), (166, .lreturn, 1, 6), (167, .bipush 110, 2, 0), (169, .bipush 97, 2, 0), (171, .bipush 109, 2, 0), (173, .bipush 101, 2, 0), (175, .iconst 0, 1, 0)],
  [(176, .iconst 0, 1, 0), (177, .invokestatic 154, 3, 3), (180, .lreturn, 1, 6), (181, .bipush 111, 2, 0), (183, .bipush 114, 2, 0), (185, .iconst 0, 1, 0), (186, .iconst 0, 1, 0), (187, .iconst 0, 1, 0), (188, .iconst 0, 1, 0), (189, .invokestatic 154, 3, 3)],
  [(192, .lreturn, 1, 6), (193, .bipush 97, 2, 0), (195, .bipush 110, 2, 0), (197, .bipush 100, 2, 0), (199, .iconst 0, 1, 0), (200, .iconst 0, 1, 0), (201, .iconst 0, 1, 0), (202, .invokestatic 154, 3, 3), (205, .lreturn, 1, 6), (206, .bipush 110, 2, 0)],
  [(208, .bipush 111, 2, 0), (210, .bipush 116, 2, 0), (212, .iconst 0, 1, 0), (213, .iconst 0, 1, 0), (214, .iconst 0, 1, 0), (215, .invokestatic 154, 3, 3), (218, .lreturn, 1, 6), (219, .bipush 105, 2, 0), (221, .bipush 110, 2, 0), (223, .iconst 0, 1, 0)],
  [(224, .iconst 0, 1, 0), (225, .iconst 0, 1, 0), (226, .iconst 0, 1, 0), (227, .invokestatic 154, 3, 3), (230, .lreturn, 1, 6), (231, .bipush 115, 2, 0), (233, .bipush 117, 2, 0), (235, .bipush 114, 2, 0), (237, .bipush 101, 2, 0), (239, .iconst 0, 1, 0)],
  [(240, .iconst 0, 1, 0), (241, .invokestatic 154, 3, 3), (244, .lreturn, 1, 6), (245, .bipush 108, 2, 0), (247, .bipush 105, 2, 0), (249, .bipush 107, 2, 0), (251, .bipush 101, 2, 0), (253, .iconst 0, 1, 0), (254, .iconst 0, 1, 0), (255, .invokestatic 154, 3, 3)],
  [(258, .lreturn, 1, 6), (259, .bipush 110, 2, 0), (261, .bipush 111, 2, 0), (263, .bipush 116, 2, 0), (265, .bipush 101, 2, 0), (267, .bipush 115, 2, 0), (269, .iconst 0, 1, 0), (270, .invokestatic 154, 3, 3)],
  [(273, .lreturn, 1, 6), (274, .bipush 104, 2, 0), (276, .bipush 105, 2, 0), (278, .bipush 103, 2, 0), (280, .bipush 104, 2, 0), (282, .iconst 0, 1, 0), (283, .iconst 0, 1, 0), (284, .invokestatic 154, 3, 3), (287, .lreturn, 1, 6)],
  [(288, .bipush 108, 2, 0), (290, .bipush 111, 2, 0), (292, .bipush 119, 2, 0), (294, .iconst 0, 1, 0), (295, .iconst 0, 1, 0), (296, .iconst 0, 1, 0), (297, .invokestatic 154, 3, 3), (300, .lreturn, 1, 6), (301, .bipush 98, 2, 0), (303, .bipush 101, 2, 0)],
  [(305, .bipush 97, 2, 0), (307, .bipush 116, 2, 0), (309, .bipush 115, 2, 0), (311, .iconst 0, 1, 0), (312, .invokestatic 154, 3, 3), (315, .lreturn, 1, 6)]]
theorem nn_d218 : ab_dtok prog_14_method_19_code nn_dt218 = true := dw_ok (by decide +kernel)
def nn_dt219 : ab_DT := [[(0, .ldc2_w 150, 3, 0), (3, .iload_n 0, 1, 0), (4, .i2l, 1, 0), (5, .ldc2_w 152, 3, 0), (8, .lsub, 1, 0), (9, .lmul, 1, 0), (10, .iload_n 1, 1, 0), (11, .i2l, 1, 0), (12, .ladd, 1, 0), (13, .ldc2_w 152, 3, 0)],
  [(16, .lsub, 1, 0), (17, .lstore 6, 2, 0), (19, .iload_n 2, 1, 0), (20, .ifCond .le 18, 3, 2), (23, .ldc2_w 150, 3, 0), (26, .lload 6, 2, 0), (28, .lmul, 1, 0), (29, .iload_n 2, 1, 0), (30, .i2l, 1, 0), (31, .ladd, 1, 0)],
  [(32, .ldc2_w 152, 3, 0), (35, .lsub, 1, 0), (36, .lstore 6, 2, 0), (38, .iload_n 3, 1, 0), (39, .ifCond .le 18, 3, 2), (42, .ldc2_w 150, 3, 0), (45, .lload 6, 2, 0), (47, .lmul, 1, 0)],
  [(48, .iload_n 3, 1, 0), (49, .i2l, 1, 0), (50, .ladd, 1, 0), (51, .ldc2_w 152, 3, 0), (54, .lsub, 1, 0), (55, .lstore 6, 2, 0), (57, .iload 4, 2, 0), (59, .ifCond .le 19, 3, 2), (62, .ldc2_w 150, 3, 0)],
  [(65, .lload 6, 2, 0), (67, .lmul, 1, 0), (68, .iload 4, 2, 0), (70, .i2l, 1, 0), (71, .ladd, 1, 0), (72, .ldc2_w 152, 3, 0), (75, .lsub, 1, 0), (76, .lstore 6, 2, 0), (78, .iload 5, 2, 0)],
  [(80, .ifCond .le 20, 3, 2), (83, .ldc2_w 150, 3, 0), (86, .lload 6, 2, 0), (88, .lmul, 1, 0), (89, .iload 5, 2, 0), (91, .i2l, 1, 0), (92, .ladd, 1, 0), (93, .ldc2_w 152, 3, 0)],
  [(96, .lsub, 1, 0), (97, .goto 5, 3, 2), (100, .lload 6, 2, 0), (102, .lreturn, 1, 6)]]
theorem nn_d219 : ab_dtok prog_14_method_18_code nn_dt219 = true := dw_ok (by decide +kernel)
def nn_dt220 : ab_DT := [[(0, .aload_n 0, 1, 0), (1, .getfield 16, 3, 1), (4, .iconst 0, 1, 0), (5, .iaload, 1, 1), (6, .istore_n 1, 1, 0), (7, .iload_n 1, 1, 0), (8, .bipush 9, 2, 0), (10, .if_icmp .ne 9, 3, 2), (13, .aload_n 0, 1, 0), (14, .iconst 4, 1, 0), (15, .invokevirtual 168, 3, 3)],
  [(18, .ireturn, 1, 6), (19, .aload_n 0, 1, 0), (20, .invokevirtual 182, 3, 3), (23, .aload_n 0, 1, 0), (24, .iload_n 1, 1, 0), (25, .invokevirtual 207, 3, 3), (28, .ifCond .ne 5, 3, 2), (31, .iconst 0, 1, 0)],
  [(32, .ireturn, 1, 6), (33, .iconst 5, 1, 0), (34, .bipush 19, 2, 0), (36, .iload_n 1, 1, 0), (37, .imul, 1, 0), (38, .iadd, 1, 0), (39, .istore_n 2, 1, 0), (40, .aload_n 0, 1, 0), (41, .getfield 16, 3, 1), (44, .iload_n 2, 1, 0), (45, .iconst 0, 1, 0), (46, .iastore, 1, 1), (47, .aload_n 0, 1, 0)],
  [(48, .getfield 16, 3, 1), (51, .iload_n 2, 1, 0), (52, .iaload, 1, 1), (53, .ifCond .eq 11, 3, 2), (56, .aload_n 0, 1, 0), (57, .getfield 126, 3, 1), (60, .iconst 3, 1, 0), (61, .if_icmp .ne 103, 3, 2)],
  [(64, .aload_n 0, 1, 0), (65, .iconst 0, 1, 0), (66, .bipush 24, 2, 0), (68, .invokevirtual 178, 3, 3), (71, .ifCond .ne 5, 3, 2), (74, .iconst 0, 1, 0), (75, .ireturn, 1, 6), (76, .aload_n 0, 1, 0), (77, .getfield 16, 3, 1)],
  [(80, .iload_n 2, 1, 0), (81, .iaload, 1, 1), (82, .bipush 9, 2, 0), (84, .if_icmp .ne 9, 3, 2), (87, .aload_n 0, 1, 0), (88, .iconst 4, 1, 0), (89, .invokevirtual 168, 3, 3), (92, .ireturn, 1, 6), (93, .aload_n 0, 1, 0), (94, .getfield 16, 3, 1)],
  [(97, .iload_n 2, 1, 0), (98, .iconst 1, 1, 0), (99, .iadd, 1, 0), (100, .iconst 2, 1, 0), (101, .aload_n 0, 1, 0), (102, .getfield 16, 3, 1), (105, .iload_n 2, 1, 0), (106, .iaload, 1, 1), (107, .imul, 1, 0), (108, .iadd, 1, 0), (109, .aload_n 0, 1, 0), (110, .getfield 175, 3, 1)],
  [(113, .iastore, 1, 1), (114, .aload_n 0, 1, 0), (115, .invokevirtual 182, 3, 3), (118, .aload_n 0, 1, 0), (119, .iconst 1, 1, 0), (120, .bipush 9, 2, 0), (122, .invokevirtual 210, 3, 3), (125, .ifCond .ne 5, 3, 2)],
  [(128, .iconst 0, 1, 0), (129, .ireturn, 1, 6), (130, .aload_n 0, 1, 0), (131, .getfield 16, 3, 1), (134, .iload_n 2, 1, 0), (135, .iconst 2, 1, 0), (136, .iadd, 1, 0), (137, .iconst 2, 1, 0), (138, .aload_n 0, 1, 0), (139, .getfield 16, 3, 1), (142, .iload_n 2, 1, 0), (143, .iaload, 1, 1)],
  [(144, .imul, 1, 0), (145, .iadd, 1, 0), (146, .aload_n 0, 1, 0), (147, .getfield 175, 3, 1), (150, .iastore, 1, 1), (151, .aload_n 0, 1, 0), (152, .getfield 16, 3, 1), (155, .iload_n 2, 1, 0), (156, .dup2, 1, 0), (157, .iaload, 1, 1), (158, .iconst 1, 1, 0), (159, .iadd, 1, 0)],
  [(160, .iastore, 1, 1), (161, .goto (-114), 3, 2), (164, .aload_n 0, 1, 0), (165, .getfield 16, 3, 1), (168, .iconst 0, 1, 0), (169, .dup2, 1, 0), (170, .iaload, 1, 1), (171, .iconst 1, 1, 0), (172, .iadd, 1, 0), (173, .iastore, 1, 1), (174, .iconst 1, 1, 0), (175, .ireturn, 1, 6)]]
theorem nn_d220 : ab_dtok prog_14_method_32_code nn_dt220 = true := dw_ok (by decide +kernel)
def nn_dt221 : ab_DT := [[(0, .aload_n 0, 1, 0), (1, .aload_n 0, 1, 0), (2, .getfield 126, 3, 1), (5, .iconst 1, 1, 0), (6, .if_icmp .ne 7, 3, 2), (9, .iconst 1, 1, 0), (10, .goto 4, 3, 2), (13, .iload_n 1, 1, 0), (14, .putfield 162, 3, 1)],
  [(17, .aload_n 0, 1, 0), (18, .aload_n 0, 1, 0), (19, .getfield 120, 3, 1), (22, .putfield 165, 3, 1), (25, .iconst 0, 1, 0), (26, .ireturn, 1, 6)]]
theorem nn_d221 : ab_dtok prog_14_method_23_code nn_dt221 = true := dw_ok (by decide +kernel)
def nn_dt222 : ab_DT := [[(0, .aload_n 0, 1, 0), (1, .invokevirtual 199, 3, 3), (4, .ifCond .ne 9, 3, 2), (7, .aload_n 0, 1, 0), (8, .iconst 1, 1, 0), (9, .invokevirtual 168, 3, 3), (12, .ireturn, 1, 6), (13, .aload_n 0, 1, 0), (14, .getfield 29, 3, 1)],
  [(17, .iconst 0, 1, 0), (18, .aload_n 0, 1, 0), (19, .getfield 16, 3, 1), (22, .iconst 0, 1, 0), (23, .iaload, 1, 1), (24, .aload_n 0, 1, 0), (25, .getfield 139, 3, 1), (28, .invokestatic 203, 3, 3), (31, .iconst (-1), 1, 0)],
  [(32, .if_icmp .ne 49, 3, 2), (35, .aload_n 0, 1, 0), (36, .getfield 29, 3, 1), (39, .bipush 9, 2, 0), (41, .aload_n 0, 1, 0), (42, .getfield 16, 3, 1), (45, .iconst 1, 1, 0), (46, .iaload, 1, 1), (47, .aload_n 0, 1, 0)],
  [(48, .getfield 139, 3, 1), (51, .invokestatic 203, 3, 3), (54, .iconst (-1), 1, 0), (55, .if_icmp .ne 26, 3, 2), (58, .aload_n 0, 1, 0), (59, .getfield 29, 3, 1), (62, .bipush 15, 2, 0)],
  [(64, .aload_n 0, 1, 0), (65, .getfield 16, 3, 1), (68, .iconst 2, 1, 0), (69, .iaload, 1, 1), (70, .aload_n 0, 1, 0), (71, .getfield 139, 3, 1), (74, .invokestatic 203, 3, 3), (77, .iconst (-1), 1, 0), (78, .if_icmp .eq 7, 3, 2)],
  [(81, .iconst 1, 1, 0), (82, .goto 4, 3, 2), (85, .iconst 0, 1, 0), (86, .istore_n 2, 1, 0), (87, .iload_n 2, 1, 0), (88, .ifCond .eq 9, 3, 2), (91, .aload_n 0, 1, 0), (92, .iconst 3, 1, 0), (93, .invokevirtual 168, 3, 3)],
  [(96, .ireturn, 1, 6), (97, .aload_n 0, 1, 0), (98, .getfield 29, 3, 1), (101, .iload_n 1, 1, 0), (102, .aload_n 0, 1, 0), (103, .getfield 139, 3, 1), (106, .lastore, 1, 1), (107, .aload_n 0, 1, 0), (108, .invokevirtual 182, 3, 3), (111, .iconst 1, 1, 0)],
  [(112, .ireturn, 1, 6)]]
theorem nn_d222 : ab_dtok prog_14_method_30_code nn_dt222 = true := dw_ok (by decide +kernel)
def nn_dt223 : ab_DT := [[(0, .aload_n 0, 1, 0), (1, .getfield 126, 3, 1), (4, .iconst 2, 1, 0), (5, .if_icmp .eq 5, 3, 2), (8, .iconst 0, 1, 0), (9, .ireturn, 1, 6), (10, .iconst 0, 1, 0), (11, .istore_n 1, 1, 0), (12, .iload_n 1, 1, 0), (13, .bipush 16, 2, 0), (15, .if_icmp .gt 23, 3, 2)],
  [(18, .aload_n 0, 1, 0), (19, .getfield 139, 3, 1), (22, .iload_n 1, 1, 0), (23, .invokestatic 158, 3, 3), (26, .lcmp, 1, 2), (27, .ifCond .ne 5, 3, 2), (30, .iconst 0, 1, 0), (31, .ireturn, 1, 6)],
  [(32, .iinc 1 1, 3, 0), (35, .goto (-23), 3, 2), (38, .iconst 1, 1, 0), (39, .ireturn, 1, 6)]]
theorem nn_d223 : ab_dtok prog_14_method_22_code nn_dt223 = true := dw_ok (by decide +kernel)
def nn_dt224 : ab_DT := [[(0, .iconst 0, 1, 0), (1, .istore 5, 2, 0), (3, .iload 5, 2, 0), (5, .iload_n 2, 1, 0), (6, .if_icmp .ge 23, 3, 2), (9, .aload_n 0, 1, 0), (10, .iload_n 1, 1, 0), (11, .iload 5, 2, 0), (13, .iadd, 1, 0), (14, .laload, 1, 1), (15, .lload_n 3, 1, 0)],
  [(16, .lcmp, 1, 2), (17, .ifCond .ne 6, 3, 2), (20, .iload 5, 2, 0), (22, .ireturn, 1, 6), (23, .iinc 5 1, 3, 0), (26, .goto (-23), 3, 2), (29, .iconst (-1), 1, 0), (30, .ireturn, 1, 6)]]
theorem nn_d224 : ab_dtok prog_14_method_29_code nn_dt224 = true := dw_ok (by decide +kernel)
def nn_dt225 : ab_DT := [[(0, .aload_n 0, 1, 0), (1, .getfield 126, 3, 1), (4, .iconst 3, 1, 0), (5, .if_icmp .eq 9, 3, 2), (8, .aload_n 0, 1, 0), (9, .iconst 1, 1, 0), (10, .invokevirtual 168, 3, 3), (13, .ireturn, 1, 6), (14, .aload_n 0, 1, 0), (15, .getfield 143, 3, 1)],
  [(18, .iload_n 1, 1, 0), (19, .iload_n 2, 1, 0), (20, .invokestatic 171, 3, 3), (23, .ifCond .ne 9, 3, 2), (26, .aload_n 0, 1, 0), (27, .iconst 2, 1, 0), (28, .invokevirtual 168, 3, 3), (31, .ireturn, 1, 6)],
  [(32, .aload_n 0, 1, 0), (33, .aload_n 0, 1, 0), (34, .getfield 143, 3, 1), (37, .putfield 175, 3, 1), (40, .iconst 1, 1, 0), (41, .ireturn, 1, 6)]]
theorem nn_d225 : ab_dtok prog_14_method_24_code nn_dt225 = true := dw_ok (by decide +kernel)
def nn_dt226 : ab_DT := [[(0, .iload_n 0, 1, 0), (1, .iload_n 1, 1, 0), (2, .if_icmp .lt 12, 3, 2), (5, .iload_n 0, 1, 0), (6, .iload_n 2, 1, 0), (7, .if_icmp .gt 7, 3, 2), (10, .iconst 1, 1, 0), (11, .goto 4, 3, 2), (14, .iconst 0, 1, 0), (15, .ireturn, 1, 6)]]
theorem nn_d226 : ab_dtok prog_14_method_8_code nn_dt226 = true := dw_ok (by decide +kernel)
def nn_dt227 : ab_DT := [[(0, .aload_n 0, 1, 0), (1, .iload_n 1, 1, 0), (2, .iload_n 2, 1, 0), (3, .invokevirtual 178, 3, 3), (6, .ifCond .ne 5, 3, 2), (9, .iconst 0, 1, 0), (10, .ireturn, 1, 6), (11, .aload_n 0, 1, 0), (12, .invokevirtual 182, 3, 3), (15, .iconst 1, 1, 0)],
  [(16, .ireturn, 1, 6)]]
theorem nn_d227 : ab_dtok prog_14_method_25_code nn_dt227 = true := dw_ok (by decide +kernel)
def nn_dt228 : ab_DT := [[(0, .aload_n 0, 1, 0), (1, .getfield 16, 3, 1), (4, .iconst 1, 1, 0), (5, .iaload, 1, 1), (6, .istore_n 1, 1, 0), (7, .iload_n 1, 1, 0), (8, .bipush 6, 2, 0), (10, .if_icmp .ne 9, 3, 2), (13, .aload_n 0, 1, 0), (14, .iconst 4, 1, 0), (15, .invokevirtual 168, 3, 3)],
  [(18, .ireturn, 1, 6), (19, .aload_n 0, 1, 0), (20, .invokevirtual 182, 3, 3), (23, .aload_n 0, 1, 0), (24, .bipush 9, 2, 0), (26, .iload_n 1, 1, 0), (27, .iadd, 1, 0), (28, .invokevirtual 207, 3, 3), (31, .ifCond .ne 5, 3, 2)],
  [(34, .iconst 0, 1, 0), (35, .ireturn, 1, 6), (36, .aload_n 0, 1, 0), (37, .getfield 16, 3, 1), (40, .sipush 176, 3, 0), (43, .iload_n 1, 1, 0), (44, .iadd, 1, 0), (45, .iconst 0, 1, 0), (46, .iastore, 1, 1), (47, .aload_n 0, 1, 0)],
  [(48, .getfield 16, 3, 1), (51, .sipush 176, 3, 0), (54, .iload_n 1, 1, 0), (55, .iadd, 1, 0), (56, .iaload, 1, 1), (57, .ifCond .eq 11, 3, 2), (60, .aload_n 0, 1, 0), (61, .getfield 126, 3, 1)],
  [(64, .iconst 2, 1, 0), (65, .if_icmp .ne 71, 3, 2), (68, .aload_n 0, 1, 0), (69, .iconst 0, 1, 0), (70, .aload_n 0, 1, 0), (71, .getfield 16, 3, 1), (74, .iconst 0, 1, 0), (75, .iaload, 1, 1), (76, .invokevirtual 213, 3, 3), (79, .ifCond .ne 5, 3, 2)],
  [(82, .iconst 0, 1, 0), (83, .ireturn, 1, 6), (84, .aload_n 0, 1, 0), (85, .getfield 16, 3, 1), (88, .sipush 176, 3, 0), (91, .iload_n 1, 1, 0), (92, .iadd, 1, 0), (93, .iaload, 1, 1), (94, .aload_n 0, 1, 0), (95, .getfield 175, 3, 1)],
  [(98, .invokestatic 216, 3, 3), (101, .ifCond .eq 9, 3, 2), (104, .aload_n 0, 1, 0), (105, .iconst 3, 1, 0), (106, .invokevirtual 168, 3, 3), (109, .ireturn, 1, 6), (110, .aload_n 0, 1, 0), (111, .getfield 16, 3, 1)],
  [(114, .sipush 176, 3, 0), (117, .iload_n 1, 1, 0), (118, .iadd, 1, 0), (119, .dup2, 1, 0), (120, .iaload, 1, 1), (121, .iconst 1, 1, 0), (122, .aload_n 0, 1, 0), (123, .getfield 175, 3, 1), (126, .ishl, 1, 0), (127, .ior, 1, 0)],
  [(128, .iastore, 1, 1), (129, .aload_n 0, 1, 0), (130, .invokevirtual 182, 3, 3), (133, .goto (-86), 3, 2), (136, .aload_n 0, 1, 0), (137, .getfield 16, 3, 1), (140, .iconst 1, 1, 0), (141, .dup2, 1, 0), (142, .iaload, 1, 1), (143, .iconst 1, 1, 0)],
  [(144, .iadd, 1, 0), (145, .iastore, 1, 1), (146, .iconst 1, 1, 0), (147, .ireturn, 1, 6)]]
theorem nn_d228 : ab_dtok prog_14_method_33_code nn_dt228 = true := dw_ok (by decide +kernel)
def nn_dt229 : ab_DT := [[(0, .aload_n 0, 1, 0), (1, .invokevirtual 199, 3, 3), (4, .ifCond .ne 9, 3, 2), (7, .aload_n 0, 1, 0), (8, .iconst 1, 1, 0), (9, .invokevirtual 168, 3, 3), (12, .ireturn, 1, 6), (13, .aload_n 0, 1, 0), (14, .aload_n 0, 1, 0), (15, .getfield 29, 3, 1)],
  [(18, .iload_n 1, 1, 0), (19, .iload_n 2, 1, 0), (20, .aload_n 0, 1, 0), (21, .getfield 139, 3, 1), (24, .invokestatic 203, 3, 3), (27, .putfield 175, 3, 1), (30, .aload_n 0, 1, 0), (31, .getfield 175, 3, 1)],
  [(34, .iconst (-1), 1, 0), (35, .if_icmp .ne 11, 3, 2), (38, .aload_n 0, 1, 0), (39, .iconst 3, 1, 0), (40, .invokevirtual 168, 3, 3), (43, .ifCond .eq 7, 3, 2), (46, .iconst 1, 1, 0), (47, .goto 4, 3, 2)],
  [(50, .iconst 0, 1, 0), (51, .ireturn, 1, 6)]]
theorem nn_d229 : ab_dtok prog_14_method_31_code nn_dt229 = true := dw_ok (by decide +kernel)
def nn_dt230 : ab_DT := [[(0, .iload_n 0, 1, 0), (1, .iload_n 1, 1, 0), (2, .ishr, 1, 0), (3, .iconst 1, 1, 0), (4, .iand, 1, 0), (5, .iconst 1, 1, 0), (6, .if_icmp .ne 7, 3, 2), (9, .iconst 1, 1, 0), (10, .goto 4, 3, 2), (13, .iconst 0, 1, 0), (14, .ireturn, 1, 6)]]
theorem nn_d230 : ab_dtok prog_14_method_9_code nn_dt230 = true := dw_ok (by decide +kernel)
def nn_dt231 : ab_DT := [[(0, .aload_n 0, 1, 0), (1, .getfield 16, 3, 1), (4, .iconst 2, 1, 0), (5, .iaload, 1, 1), (6, .istore_n 1, 1, 0), (7, .iload_n 1, 1, 0), (8, .iconst 5, 1, 0), (9, .if_icmp .ne 9, 3, 2), (12, .aload_n 0, 1, 0), (13, .iconst 4, 1, 0), (14, .invokevirtual 168, 3, 3)],
  [(17, .ireturn, 1, 6), (18, .aload_n 0, 1, 0), (19, .invokevirtual 182, 3, 3), (22, .aload_n 0, 1, 0), (23, .bipush 15, 2, 0), (25, .iload_n 1, 1, 0), (26, .iadd, 1, 0), (27, .invokevirtual 207, 3, 3), (30, .ifCond .ne 5, 3, 2)],
  [(33, .iconst 0, 1, 0), (34, .ireturn, 1, 6), (35, .aload_n 0, 1, 0), (36, .getfield 16, 3, 1), (39, .sipush 227, 3, 0), (42, .iload_n 1, 1, 0), (43, .iadd, 1, 0), (44, .iconst 5, 1, 0), (45, .iastore, 1, 1), (46, .aload_n 0, 1, 0), (47, .getfield 16, 3, 1)],
  [(50, .iconst 2, 1, 0), (51, .dup2, 1, 0), (52, .iaload, 1, 1), (53, .iconst 1, 1, 0), (54, .iadd, 1, 0), (55, .iastore, 1, 1), (56, .iconst 1, 1, 0), (57, .ireturn, 1, 6)]]
theorem nn_d231 : ab_dtok prog_14_method_34_code nn_dt231 = true := dw_ok (by decide +kernel)
def nn_dt232 : ab_DT := [[(0, .aload_n 0, 1, 0), (1, .invokevirtual 182, 3, 3), (4, .aload_n 0, 1, 0), (5, .bipush 15, 2, 0), (7, .aload_n 0, 1, 0), (8, .getfield 16, 3, 1), (11, .iconst 2, 1, 0), (12, .iaload, 1, 1), (13, .invokevirtual 213, 3, 3)],
  [(16, .ifCond .ne 5, 3, 2), (19, .iconst 0, 1, 0), (20, .ireturn, 1, 6), (21, .aload_n 0, 1, 0), (22, .getfield 175, 3, 1), (25, .istore_n 1, 1, 0), (26, .aload_n 0, 1, 0), (27, .invokevirtual 182, 3, 3), (30, .aload_n 0, 1, 0), (31, .iconst 0, 1, 0)],
  [(32, .aload_n 0, 1, 0), (33, .getfield 16, 3, 1), (36, .iconst 0, 1, 0), (37, .iaload, 1, 1), (38, .invokevirtual 213, 3, 3), (41, .ifCond .ne 5, 3, 2), (44, .iconst 0, 1, 0), (45, .ireturn, 1, 6), (46, .aload_n 0, 1, 0), (47, .getfield 175, 3, 1)],
  [(50, .istore_n 2, 1, 0), (51, .aload_n 0, 1, 0), (52, .getfield 39, 3, 1), (55, .iload_n 1, 1, 0), (56, .iaload, 1, 1), (57, .iload_n 2, 1, 0), (58, .invokestatic 216, 3, 3), (61, .ifCond .eq 9, 3, 2)],
  [(64, .aload_n 0, 1, 0), (65, .iconst 3, 1, 0), (66, .invokevirtual 168, 3, 3), (69, .ireturn, 1, 6), (70, .aload_n 0, 1, 0), (71, .getfield 39, 3, 1), (74, .iload_n 1, 1, 0), (75, .dup2, 1, 0), (76, .iaload, 1, 1), (77, .iconst 1, 1, 0), (78, .iload_n 2, 1, 0), (79, .ishl, 1, 0)],
  [(80, .ior, 1, 0), (81, .iastore, 1, 1), (82, .aload_n 0, 1, 0), (83, .invokevirtual 182, 3, 3), (86, .aload_n 0, 1, 0), (87, .iconst 0, 1, 0), (88, .bipush 9, 2, 0), (90, .invokevirtual 210, 3, 3), (93, .ifCond .ne 5, 3, 2)],
  [(96, .iconst 0, 1, 0), (97, .ireturn, 1, 6), (98, .aload_n 0, 1, 0), (99, .getfield 16, 3, 1), (102, .sipush 182, 3, 0), (105, .bipush 9, 2, 0), (107, .iload_n 1, 1, 0), (108, .imul, 1, 0), (109, .iadd, 1, 0), (110, .iload_n 2, 1, 0), (111, .iadd, 1, 0)],
  [(112, .aload_n 0, 1, 0), (113, .getfield 175, 3, 1), (116, .iastore, 1, 1), (117, .iconst 1, 1, 0), (118, .ireturn, 1, 6)]]
theorem nn_d232 : ab_dtok prog_14_method_35_code nn_dt232 = true := dw_ok (by decide +kernel)
def nn_dt233 : ab_DT := [[(0, .aload_n 0, 1, 0), (1, .invokevirtual 182, 3, 3), (4, .aload_n 0, 1, 0), (5, .bipush 15, 2, 0), (7, .aload_n 0, 1, 0), (8, .getfield 16, 3, 1), (11, .iconst 2, 1, 0), (12, .iaload, 1, 1), (13, .invokevirtual 213, 3, 3)],
  [(16, .ifCond .ne 5, 3, 2), (19, .iconst 0, 1, 0), (20, .ireturn, 1, 6), (21, .aload_n 0, 1, 0), (22, .getfield 175, 3, 1), (25, .istore_n 1, 1, 0), (26, .aload_n 0, 1, 0), (27, .getfield 219, 3, 1), (30, .iload_n 1, 1, 0), (31, .invokestatic 216, 3, 3)],
  [(34, .ifCond .eq 9, 3, 2), (37, .aload_n 0, 1, 0), (38, .iconst 3, 1, 0), (39, .invokevirtual 168, 3, 3), (42, .ireturn, 1, 6), (43, .aload_n 0, 1, 0), (44, .dup, 1, 0), (45, .getfield 219, 3, 1)],
  [(48, .iconst 1, 1, 0), (49, .iload_n 1, 1, 0), (50, .ishl, 1, 0), (51, .ior, 1, 0), (52, .putfield 219, 3, 1), (55, .aload_n 0, 1, 0), (56, .invokevirtual 182, 3, 3), (59, .aload_n 0, 1, 0), (60, .iconst 0, 1, 0), (61, .bipush 9, 2, 0), (63, .invokevirtual 210, 3, 3)],
  [(66, .ifCond .ne 5, 3, 2), (69, .iconst 0, 1, 0), (70, .ireturn, 1, 6), (71, .aload_n 0, 1, 0), (72, .getfield 16, 3, 1), (75, .sipush 227, 3, 0), (78, .iload_n 1, 1, 0), (79, .iadd, 1, 0)],
  [(80, .aload_n 0, 1, 0), (81, .getfield 175, 3, 1), (84, .iastore, 1, 1), (85, .iconst 1, 1, 0), (86, .ireturn, 1, 6)]]
theorem nn_d233 : ab_dtok prog_14_method_36_code nn_dt233 = true := dw_ok (by decide +kernel)
def nn_dt234 : ab_DT := [[(0, .aload_n 0, 1, 0), (1, .getfield 222, 3, 1), (4, .ifCond .le 9, 3, 2), (7, .aload_n 0, 1, 0), (8, .iconst 3, 1, 0), (9, .invokevirtual 168, 3, 3), (12, .ireturn, 1, 6), (13, .aload_n 0, 1, 0), (14, .iconst 1, 1, 0), (15, .putfield 222, 3, 1)],
  [(18, .aload_n 0, 1, 0), (19, .invokevirtual 182, 3, 3), (22, .aload_n 0, 1, 0), (23, .iconst 1, 1, 0), (24, .bipush 9, 2, 0), (26, .invokevirtual 210, 3, 3), (29, .ifCond .ne 5, 3, 2)],
  [(32, .iconst 0, 1, 0), (33, .ireturn, 1, 6), (34, .aload_n 0, 1, 0), (35, .getfield 16, 3, 1), (38, .iconst 3, 1, 0), (39, .aload_n 0, 1, 0), (40, .getfield 175, 3, 1), (43, .iastore, 1, 1), (44, .iconst 1, 1, 0), (45, .ireturn, 1, 6)]]
theorem nn_d234 : ab_dtok prog_14_method_37_code nn_dt234 = true := dw_ok (by decide +kernel)
def nn_dt235 : ab_DT := [[(0, .aload_n 0, 1, 0), (1, .bipush 59, 2, 0), (3, .invokevirtual 185, 3, 3), (6, .ifCond .ne 9, 3, 2), (9, .aload_n 0, 1, 0), (10, .iconst 1, 1, 0), (11, .invokevirtual 168, 3, 3), (14, .ireturn, 1, 6), (15, .aload_n 0, 1, 0)],
  [(16, .invokevirtual 182, 3, 3), (19, .iconst 1, 1, 0), (20, .ireturn, 1, 6)]]
theorem nn_d235 : ab_dtok prog_14_method_26_code nn_dt235 = true := dw_ok (by decide +kernel)
def nn_dt236 : ab_DT := [[(0, .aload_n 0, 1, 0), (1, .getfield 126, 3, 1), (4, .iconst 4, 1, 0), (5, .if_icmp .ne 15, 3, 2), (8, .aload_n 0, 1, 0), (9, .getfield 136, 3, 1), (12, .iload_n 1, 1, 0), (13, .if_icmp .ne 7, 3, 2)],
  [(16, .iconst 1, 1, 0), (17, .goto 4, 3, 2), (20, .iconst 0, 1, 0), (21, .ireturn, 1, 6)]]
theorem nn_d236 : ab_dtok prog_14_method_21_code nn_dt236 = true := dw_ok (by decide +kernel)
def nn_dt237 : ab_DT := [[(0, .aload_n 0, 1, 0), (1, .iconst 0, 1, 0), (2, .putfield 100, 3, 1), (5, .aload_n 0, 1, 0), (6, .getfield 162, 3, 1), (9, .ireturn, 1, 6)]]
theorem nn_d237 : ab_dtok prog_14_method_40_code nn_dt237 = true := dw_ok (by decide +kernel)
def nn_dt238 : ab_DT := [[(0, .aload_n 0, 1, 0), (1, .iconst 0, 1, 0), (2, .putfield 100, 3, 1), (5, .aload_n 0, 1, 0), (6, .iload_n 1, 1, 0), (7, .invokevirtual 267, 3, 3), (10, .ifCond .eq 35, 3, 2), (13, .iload_n 2, 1, 0), (14, .ifCond .lt 31, 3, 2)],
  [(17, .iload_n 2, 1, 0), (18, .aload_n 0, 1, 0), (19, .iload_n 1, 1, 0), (20, .invokevirtual 270, 3, 3), (23, .if_icmp .ge 22, 3, 2), (26, .iload_n 3, 1, 0), (27, .iconst 0, 1, 0), (28, .iconst 1, 1, 0), (29, .invokestatic 171, 3, 3)],
  [(32, .ifCond .eq 13, 3, 2), (35, .aload_n 0, 1, 0), (36, .iload_n 1, 1, 0), (37, .iload_n 2, 1, 0), (38, .iload_n 3, 1, 0), (39, .invokevirtual 273, 3, 3), (42, .goto 4, 3, 2), (45, .iconst (-1), 1, 0), (46, .ireturn, 1, 6)]]
theorem nn_d238 : ab_dtok prog_14_method_49_code nn_dt238 = true := dw_ok (by decide +kernel)
def nn_dt239 : ab_DT := [[(0, .iload_n 1, 1, 0), (1, .ifCond .lt 15, 3, 2), (4, .iload_n 1, 1, 0), (5, .aload_n 0, 1, 0), (6, .invokevirtual 261, 3, 3), (9, .if_icmp .ge 7, 3, 2), (12, .iconst 1, 1, 0), (13, .goto 4, 3, 2)],
  [(16, .iconst 0, 1, 0), (17, .ireturn, 1, 6)]]
theorem nn_d239 : ab_dtok prog_14_method_42_code nn_dt239 = true := dw_ok (by decide +kernel)
def nn_DT_200 : List ab_DT := [nn_dt200, nn_dt201, nn_dt202, nn_dt203, nn_dt204, nn_dt205, nn_dt206, nn_dt207, nn_dt208, nn_dt209, nn_dt210, nn_dt211, nn_dt212, nn_dt213, nn_dt214, nn_dt215, nn_dt216, nn_dt217, nn_dt218, nn_dt219, nn_dt220, nn_dt221, nn_dt222, nn_dt223, nn_dt224, nn_dt225, nn_dt226, nn_dt227, nn_dt228, nn_dt229, nn_dt230, nn_dt231, nn_dt232, nn_dt233, nn_dt234, nn_dt235, nn_dt236, nn_dt237, nn_dt238, nn_dt239]
theorem nn_DT_200_ok : ab_dtP nn_MT_200 nn_DT_200 := ⟨nn_d200, nn_d201, nn_d202, nn_d203, nn_d204, nn_d205, nn_d206, nn_d207, nn_d208, nn_d209, nn_d210, nn_d211, nn_d212, nn_d213, nn_d214, nn_d215, nn_d216, nn_d217, nn_d218, nn_d219, nn_d220, nn_d221, nn_d222, nn_d223, nn_d224, nn_d225, nn_d226, nn_d227, nn_d228, nn_d229, nn_d230, nn_d231, nn_d232, nn_d233, nn_d234, nn_d235, nn_d236, nn_d237, nn_d238, nn_d239, trivial⟩
