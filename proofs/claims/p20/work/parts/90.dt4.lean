def nn_dt160 : ab_DT := [[(0, .aload_n 0, 1, 0), (1, .getfield 9, 3, 1), (4, .iconst 0, 1, 0), (5, .iload_n 2, 1, 0), (6, .iastore, 1, 1), (7, .aload_n 0, 1, 0), (8, .getfield 9, 3, 1), (11, .iconst 1, 1, 0), (12, .iload_n 3, 1, 0), (13, .iastore, 1, 1), (14, .aload_n 0, 1, 0), (15, .getfield 15, 3, 1)],
  [(18, .iconst 0, 1, 0), (19, .iconst 0, 1, 0), (20, .iastore, 1, 1), (21, .aload_n 0, 1, 0), (22, .getfield 15, 3, 1), (25, .iconst 1, 1, 0), (26, .iconst 0, 1, 0), (27, .iastore, 1, 1), (28, .aload_n 0, 1, 0), (29, .iload 4, 2, 0), (31, .putfield 21, 3, 1)],
  [(34, .aload_n 0, 1, 0), (35, .iconst 0, 1, 0), (36, .putfield 25, 3, 1), (39, .aload_n 0, 1, 0), (40, .iconst 0, 1, 0), (41, .putfield 28, 3, 1), (44, .aload_n 0, 1, 0), (45, .bipush 9, 2, 0), (47, .putfield 31, 3, 1)],
  [(50, .iconst 0, 1, 0), (51, .istore 5, 2, 0), (53, .iload 5, 2, 0), (55, .iconst 5, 1, 0), (56, .if_icmp .ge 48, 3, 2), (59, .aload_n 0, 1, 0), (60, .getfield 15, 3, 1), (63, .iconst 0, 1, 0)],
  [(64, .iaload, 1, 1), (65, .iconst 3, 1, 0), (66, .if_icmp .ge 38, 3, 2), (69, .aload_n 0, 1, 0), (70, .getfield 15, 3, 1), (73, .iconst 1, 1, 0), (74, .iaload, 1, 1), (75, .iconst 3, 1, 0), (76, .if_icmp .ge 28, 3, 2), (79, .aload_n 0, 1, 0)],
  [(80, .aload_n 1, 1, 0), (81, .iload 5, 2, 0), (83, .iconst 2, 1, 0), (84, .irem, 1, 0), (85, .invokevirtual 34, 3, 3), (88, .aload_n 0, 1, 0), (89, .dup, 1, 0), (90, .getfield 25, 3, 1), (93, .iconst 1, 1, 0), (94, .iadd, 1, 0), (95, .putfield 25, 3, 1)],
  [(98, .iinc 5 1, 3, 0), (101, .goto (-48), 3, 2), (104, .return_, 1, 6)]]
theorem nn_d160 : ab_dtok prog_6_method_2_code nn_dt160 = true := dw_ok (by decide +kernel)
def nn_dt161 : ab_DT := [[(0, .aload_n 1, 1, 0), (1, .aload_n 0, 1, 0), (2, .aload_n 1, 1, 0), (3, .getfield 38, 3, 1), (6, .invokevirtual 43, 3, 3), (9, .invokevirtual 47, 3, 3), (12, .istore_n 3, 1, 0), (13, .aload_n 0, 1, 0), (14, .iload_n 3, 1, 0), (15, .invokevirtual 50, 3, 3)],
  [(18, .istore 4, 2, 0), (20, .aload_n 0, 1, 0), (21, .aload_n 1, 1, 0), (22, .iconst 0, 1, 0), (23, .iload_n 3, 1, 0), (24, .invokevirtual 53, 3, 3), (27, .aload_n 0, 1, 0), (28, .aload_n 1, 1, 0), (29, .iconst 1, 1, 0), (30, .iload_n 3, 1, 0), (31, .invokevirtual 53, 3, 3)],
  [(34, .aload_n 1, 1, 0), (35, .getfield 57, 3, 1), (38, .istore 5, 2, 0), (40, .iload_n 2, 1, 0), (41, .istore 6, 2, 0), (43, .iconst 0, 1, 0), (44, .istore 7, 2, 0), (46, .iload 7, 2, 0)],
  [(48, .bipush 9, 2, 0), (50, .if_icmp .ge 36, 3, 2), (53, .aload_n 0, 1, 0), (54, .aload_n 1, 1, 0), (55, .iconst 1, 1, 0), (56, .iload 6, 2, 0), (58, .isub, 1, 0), (59, .iload 4, 2, 0), (61, .iload 5, 2, 0), (63, .iconst 1, 1, 0)],
  [(64, .isub, 1, 0), (65, .invokevirtual 60, 3, 3), (68, .ifCond .eq 18, 3, 2), (71, .iinc 5 (-1), 3, 0), (74, .iconst 1, 1, 0), (75, .iload 6, 2, 0), (77, .isub, 1, 0), (78, .istore 6, 2, 0)],
  [(80, .iinc 7 1, 3, 0), (83, .goto (-37), 3, 2), (86, .aload_n 0, 1, 0), (87, .aload_n 0, 1, 0), (88, .getfield 31, 3, 1), (91, .iload 5, 2, 0), (93, .invokestatic 64, 3, 3)],
  [(96, .putfield 31, 3, 1), (99, .aload_n 1, 1, 0), (100, .iload 4, 2, 0), (102, .iload 5, 2, 0), (104, .iconst 0, 1, 0), (105, .aload_n 0, 1, 0), (106, .getfield 18, 3, 1), (109, .iload 6, 2, 0), (111, .invokestatic 70, 3, 3)],
  [(114, .invokevirtual 74, 3, 3), (117, .istore 7, 2, 0), (119, .iload 7, 2, 0), (121, .ifCond .eq 18, 3, 2), (124, .aload_n 0, 1, 0), (125, .iload 7, 2, 0), (127, .invokevirtual 50, 3, 3)],
  [(130, .iload 4, 2, 0), (132, .if_icmp .ne 7, 3, 2), (135, .iconst 1, 1, 0), (136, .goto 4, 3, 2), (139, .iconst 0, 1, 0), (140, .istore 8, 2, 0), (142, .aload_n 0, 1, 0), (143, .dup, 1, 0)],
  [(144, .getfield 28, 3, 1), (147, .iload 8, 2, 0), (149, .ifCond .eq 7, 3, 2), (152, .iconst 1, 1, 0), (153, .goto 4, 3, 2), (156, .iconst 0, 1, 0), (157, .iadd, 1, 0), (158, .putfield 28, 3, 1)],
  [(161, .iload 8, 2, 0), (163, .ifCond .eq 8, 3, 2), (166, .iload 6, 2, 0), (168, .goto 7, 3, 2), (171, .iconst 1, 1, 0), (172, .iload 6, 2, 0), (174, .isub, 1, 0), (175, .istore 9, 2, 0)],
  [(177, .aload_n 0, 1, 0), (178, .getfield 15, 3, 1), (181, .iload 9, 2, 0), (183, .aload_n 0, 1, 0), (184, .getfield 15, 3, 1), (187, .iload 9, 2, 0), (189, .invokestatic 70, 3, 3)],
  [(192, .iconst 1, 1, 0), (193, .iadd, 1, 0), (194, .invokestatic 78, 3, 3), (197, .return_, 1, 6)]]
theorem nn_d161 : ab_dtok prog_6_method_4_code nn_dt161 = true := dw_ok (by decide +kernel)
def nn_dt162 : ab_DT := [[(0, .aload_n 0, 1, 0), (1, .aload_n 0, 1, 0), (2, .getfield 21, 3, 1), (5, .ldc 100, 2, 0), (7, .imul, 1, 0), (8, .sipush 12345, 3, 0), (11, .iadd, 1, 0), (12, .putfield 21, 3, 1), (15, .iload_n 1, 1, 0)],
  [(16, .ifCond .le 15, 3, 2), (19, .aload_n 0, 1, 0), (20, .getfield 21, 3, 1), (23, .bipush 8, 2, 0), (25, .iushr, 1, 0), (26, .iload_n 1, 1, 0), (27, .irem, 1, 0), (28, .goto 4, 3, 2), (31, .iconst 0, 1, 0)],
  [(32, .ireturn, 1, 6)]]
theorem nn_d162 : ab_dtok prog_6_method_8_code nn_dt162 = true := dw_ok (by decide +kernel)
def nn_dt163 : ab_DT := [[(0, .iload_n 1, 1, 0), (1, .aload_n 0, 1, 0), (2, .iload_n 1, 1, 0), (3, .invokestatic 89, 3, 3), (6, .invokevirtual 43, 3, 3), (9, .invokestatic 97, 3, 3), (12, .ireturn, 1, 6)]]
theorem nn_d163 : ab_dtok prog_6_method_7_code nn_dt163 = true := dw_ok (by decide +kernel)
def nn_dt164 : ab_DT := [[(0, .iconst 0, 1, 0), (1, .istore_n 2, 1, 0), (2, .iconst 0, 1, 0), (3, .istore_n 3, 1, 0), (4, .iload_n 3, 1, 0), (5, .bipush 9, 2, 0), (7, .if_icmp .ge 27, 3, 2), (10, .iload_n 0, 1, 0), (11, .iload_n 3, 1, 0), (12, .invokestatic 197, 3, 3), (15, .ifCond .eq 13, 3, 2)],
  [(18, .iload_n 2, 1, 0), (19, .iload_n 1, 1, 0), (20, .if_icmp .ne 5, 3, 2), (23, .iload_n 3, 1, 0), (24, .ireturn, 1, 6), (25, .iinc 2 1, 3, 0), (28, .iinc 3 1, 3, 0), (31, .goto (-27), 3, 2)],
  [(34, .iconst (-1), 1, 0), (35, .ireturn, 1, 6)]]
theorem nn_d164 : ab_dtok prog_1_method_83_code nn_dt164 = true := dw_ok (by decide +kernel)
def nn_dt165 : ab_DT := [[(0, .iconst 0, 1, 0), (1, .istore 4, 2, 0), (3, .iconst 0, 1, 0), (4, .istore 5, 2, 0), (6, .iload 5, 2, 0), (8, .bipush 9, 2, 0), (10, .if_icmp .ge 50, 3, 2), (13, .iload_n 3, 1, 0), (14, .iload 5, 2, 0)],
  [(16, .invokestatic 82, 3, 3), (19, .ifCond .eq 35, 3, 2), (22, .aload_n 0, 1, 0), (23, .bipush 9, 2, 0), (25, .invokevirtual 43, 3, 3), (28, .aload_n 1, 1, 0), (29, .aload_n 0, 1, 0), (30, .getfield 9, 3, 1)],
  [(33, .iload_n 2, 1, 0), (34, .invokestatic 70, 3, 3), (37, .iload 5, 2, 0), (39, .invokevirtual 86, 3, 3), (42, .if_icmp .ge 12, 3, 2), (45, .iload 4, 2, 0), (47, .iconst 1, 1, 0)],
  [(48, .iload 5, 2, 0), (50, .ishl, 1, 0), (51, .ior, 1, 0), (52, .istore 4, 2, 0), (54, .iinc 5 1, 3, 0), (57, .goto (-51), 3, 2), (60, .aload_n 0, 1, 0), (61, .getfield 18, 3, 1)],
  [(64, .iload_n 2, 1, 0), (65, .iload 4, 2, 0), (67, .invokestatic 78, 3, 3), (70, .return_, 1, 6)]]
theorem nn_d165 : ab_dtok prog_6_method_5_code nn_dt165 = true := dw_ok (by decide +kernel)
def nn_dt166 : ab_DT := [[(0, .aload_n 0, 1, 0), (1, .getfield 18, 3, 1), (4, .iload_n 2, 1, 0), (5, .invokestatic 70, 3, 3), (8, .istore 5, 2, 0), (10, .iload 4, 2, 0), (12, .iconst 1, 1, 0), (13, .if_icmp .lt 12, 3, 2)],
  [(16, .iload 5, 2, 0), (18, .iload_n 3, 1, 0), (19, .invokestatic 82, 3, 3), (22, .ifCond .ne 5, 3, 2), (25, .iconst 0, 1, 0), (26, .ireturn, 1, 6), (27, .aload_n 1, 1, 0), (28, .iload_n 3, 1, 0), (29, .iload 4, 2, 0), (31, .iconst 0, 1, 0)],
  [(32, .iload 5, 2, 0), (34, .invokevirtual 74, 3, 3), (37, .invokestatic 89, 3, 3), (40, .iconst 1, 1, 0), (41, .isub, 1, 0), (42, .istore 6, 2, 0), (44, .iload 6, 2, 0), (46, .bipush 9, 2, 0)],
  [(48, .aload_n 1, 1, 0), (49, .getfield 94, 3, 1), (52, .aload_n 0, 1, 0), (53, .getfield 9, 3, 1), (56, .iload_n 2, 1, 0), (57, .invokestatic 70, 3, 3), (60, .invokestatic 70, 3, 3), (63, .isub, 1, 0)],
  [(64, .if_icmp .gt 7, 3, 2), (67, .iconst 1, 1, 0), (68, .goto 4, 3, 2), (71, .iconst 0, 1, 0), (72, .ireturn, 1, 6)]]
theorem nn_d166 : ab_dtok prog_6_method_6_code nn_dt166 = true := dw_ok (by decide +kernel)
def nn_dt167 : ab_DT := [[(0, .aload_n 0, 1, 0), (1, .getfield 15, 3, 1), (4, .iconst 0, 1, 0), (5, .iaload, 1, 1), (6, .iconst 3, 1, 0), (7, .if_icmp .lt 7, 3, 2), (10, .iconst 1, 1, 0), (11, .goto 4, 3, 2), (14, .iconst 0, 1, 0), (15, .ireturn, 1, 6)]]
theorem nn_d167 : ab_dtok prog_6_method_3_code nn_dt167 = true := dw_ok (by decide +kernel)
def nn_dt168 : ab_DT := [[(0, .aload_n 0, 1, 0), (1, .getfield 100, 3, 1), (4, .ifCond .eq 25, 3, 2), (7, .iload_n 1, 1, 0), (8, .ifCond .lt 21, 3, 2), (11, .iload_n 1, 1, 0), (12, .aload_n 0, 1, 0), (13, .getfield 97, 3, 1)],
  [(16, .arraylength, 1, 1), (17, .if_icmp .ge 12, 3, 2), (20, .aload_n 0, 1, 0), (21, .getfield 97, 3, 1), (24, .iload_n 1, 1, 0), (25, .iaload, 1, 1), (26, .goto 4, 3, 2), (29, .iconst (-1), 1, 0), (30, .ireturn, 1, 6)]]
theorem nn_d168 : ab_dtok prog_1_method_51_code nn_dt168 = true := dw_ok (by decide +kernel)
def nn_dt169 : ab_DT := [[(0, .aload_n 0, 1, 0), (1, .iload_n 1, 1, 0), (2, .iload_n 2, 1, 0), (3, .invokevirtual 405, 3, 3), (6, .ifCond .eq 14, 3, 2), (9, .iload_n 3, 1, 0), (10, .iconst 1, 1, 0), (11, .if_icmp .lt 9, 3, 2), (14, .iload_n 3, 1, 0), (15, .bipush 100, 2, 0)],
  [(17, .if_icmp .le 5, 3, 2), (20, .iconst (-1), 1, 0), (21, .ireturn, 1, 6), (22, .iconst 0, 1, 0), (23, .istore 5, 2, 0), (25, .iconst 0, 1, 0), (26, .istore 6, 2, 0), (28, .iload 6, 2, 0), (30, .iload_n 3, 1, 0), (31, .if_icmp .ge 47, 3, 2)],
  [(34, .aload_n 0, 1, 0), (35, .getfield 69, 3, 1), (38, .aload_n 0, 1, 0), (39, .getfield 19, 3, 1), (42, .iload_n 1, 1, 0), (43, .iload_n 2, 1, 0), (44, .iload 4, 2, 0), (46, .iload 6, 2, 0)],
  [(48, .iadd, 1, 0), (49, .invokevirtual 408, 3, 3), (52, .iload 5, 2, 0), (54, .aload_n 0, 1, 0), (55, .getfield 69, 3, 1), (58, .invokevirtual 424, 3, 3), (61, .ifCond .eq 7, 3, 2)],
  [(64, .iconst 1, 1, 0), (65, .goto 4, 3, 2), (68, .iconst 0, 1, 0), (69, .iadd, 1, 0), (70, .istore 5, 2, 0), (72, .iinc 6 1, 3, 0), (75, .goto (-47), 3, 2), (78, .iload 5, 2, 0)],
  [(80, .ireturn, 1, 6)]]
theorem nn_d169 : ab_dtok prog_1_method_52_code nn_dt169 = true := dw_ok (by decide +kernel)
def nn_dt170 : ab_DT := [[(0, .aload_n 0, 1, 0), (1, .getfield 19, 3, 1), (4, .iload_n 1, 1, 0), (5, .invokevirtual 157, 3, 3), (8, .ifCond .ne 5, 3, 2), (11, .iconst (-1), 1, 0), (12, .ireturn, 1, 6), (13, .aload_n 0, 1, 0), (14, .getfield 83, 3, 1)],
  [(17, .invokevirtual 281, 3, 3), (20, .iconst 0, 1, 0), (21, .istore_n 2, 1, 0), (22, .iload_n 2, 1, 0), (23, .aload_n 0, 1, 0), (24, .getfield 19, 3, 1), (27, .getfield 427, 3, 1), (30, .iload_n 1, 1, 0), (31, .invokestatic 180, 3, 3)],
  [(34, .if_icmp .ge 63, 3, 2), (37, .iload_n 2, 1, 0), (38, .ifCond .le 12, 3, 2), (41, .aload_n 0, 1, 0), (42, .getfield 83, 3, 1), (45, .bipush 32, 2, 0), (47, .invokevirtual 300, 3, 3)],
  [(50, .aload_n 0, 1, 0), (51, .getfield 83, 3, 1), (54, .aload_n 0, 1, 0), (55, .getfield 19, 3, 1), (58, .iload_n 1, 1, 0), (59, .iload_n 2, 1, 0), (60, .invokevirtual 150, 3, 3), (63, .invokevirtual 306, 3, 3)],
  [(66, .aload_n 0, 1, 0), (67, .getfield 83, 3, 1), (70, .bipush 32, 2, 0), (72, .invokevirtual 300, 3, 3), (75, .aload_n 0, 1, 0), (76, .getfield 83, 3, 1), (79, .aload_n 0, 1, 0)],
  [(80, .getfield 19, 3, 1), (83, .iload_n 1, 1, 0), (84, .iload_n 2, 1, 0), (85, .invokevirtual 154, 3, 3), (88, .invokevirtual 306, 3, 3), (91, .iinc 2 1, 3, 0), (94, .goto (-72), 3, 2)],
  [(97, .aload_n 0, 1, 0), (98, .getfield 83, 3, 1), (101, .getfield 311, 3, 1), (104, .ireturn, 1, 6)]]
theorem nn_d170 : ab_dtok prog_1_method_53_code nn_dt170 = true := dw_ok (by decide +kernel)
def nn_dt171 : ab_DT := [[(0, .iload_n 1, 1, 0), (1, .ifCond .lt 28, 3, 2), (4, .iload_n 1, 1, 0), (5, .aload_n 0, 1, 0), (6, .getfield 83, 3, 1), (9, .getfield 311, 3, 1), (12, .if_icmp .ge 17, 3, 2), (15, .aload_n 0, 1, 0)],
  [(16, .getfield 83, 3, 1), (19, .getfield 430, 3, 1), (22, .iload_n 1, 1, 0), (23, .invokestatic 180, 3, 3), (26, .goto 4, 3, 2), (29, .iconst (-1), 1, 0), (30, .ireturn, 1, 6)]]
theorem nn_d171 : ab_dtok prog_1_method_54_code nn_dt171 = true := dw_ok (by decide +kernel)
def nn_dt172 : ab_DT := [[(0, .aload_n 0, 1, 0), (1, .getfield 41, 3, 1), (4, .aload_n 0, 1, 0), (5, .getfield 10, 3, 1), (8, .aload_n 0, 1, 0), (9, .getfield 19, 3, 1), (12, .invokevirtual 433, 3, 3), (15, .istore_n 1, 1, 0)],
  [(16, .aload_n 0, 1, 0), (17, .getfield 10, 3, 1), (20, .iconst 0, 1, 0), (21, .putfield 116, 3, 1), (24, .iload_n 1, 1, 0), (25, .ifCond .ne 13, 3, 2), (28, .iconst (-1), 1, 0), (29, .aload_n 0, 1, 0), (30, .getfield 10, 3, 1)],
  [(33, .getfield 122, 3, 1), (36, .isub, 1, 0), (37, .ireturn, 1, 6), (38, .aload_n 0, 1, 0), (39, .getfield 19, 3, 1), (42, .getfield 434, 3, 1), (45, .aload_n 0, 1, 0), (46, .getfield 41, 3, 1)],
  [(49, .invokevirtual 437, 3, 3), (52, .aload_n 0, 1, 0), (53, .getfield 41, 3, 1), (56, .getfield 440, 3, 1), (59, .ireturn, 1, 6)]]
theorem nn_d172 : ab_dtok prog_1_method_55_code nn_dt172 = true := dw_ok (by decide +kernel)
def nn_dt173 : ab_DT := [[(0, .aload_n 0, 1, 0), (1, .invokevirtual 32, 3, 3), (4, .aload_n 1, 1, 0), (5, .sipush 200, 3, 0), (8, .invokevirtual 35, 3, 3), (11, .aload_n 0, 1, 0), (12, .aload_n 1, 1, 0), (13, .aload_n 2, 1, 0), (14, .iconst 1, 1, 0), (15, .invokevirtual 41, 3, 3)],
  [(18, .ifCond .ne 5, 3, 2), (21, .iconst 0, 1, 0), (22, .ireturn, 1, 6), (23, .aload_n 1, 1, 0), (24, .getfield 45, 3, 1), (27, .ifCond .eq 11, 3, 2), (30, .aload_n 1, 1, 0), (31, .iconst 1, 1, 0)],
  [(32, .invokevirtual 48, 3, 3), (35, .ifCond .eq 7, 3, 2), (38, .iconst 1, 1, 0), (39, .goto 4, 3, 2), (42, .iconst 0, 1, 0), (43, .ireturn, 1, 6)]]
theorem nn_d173 : ab_dtok prog_7_method_4_code nn_dt173 = true := dw_ok (by decide +kernel)
def nn_dt174 : ab_DT := [[(0, .aload_n 0, 1, 0), (1, .aload_n 1, 1, 0), (2, .aload_n 2, 1, 0), (3, .iload_n 3, 1, 0), (4, .invokevirtual 52, 3, 3), (7, .istore 4, 2, 0), (9, .iconst 0, 1, 0), (10, .istore 5, 2, 0), (12, .iconst 0, 1, 0), (13, .istore 6, 2, 0), (15, .iload 6, 2, 0)],
  [(17, .bipush 20, 2, 0), (19, .if_icmp .ge 98, 3, 2), (22, .iload 4, 2, 0), (24, .ifCond .eq 93, 3, 2), (27, .aload_n 1, 1, 0), (28, .getstatic 55, 3, 4), (31, .invokevirtual 61, 3, 3)],
  [(34, .ifCond .ne 13, 3, 2), (37, .aload_n 1, 1, 0), (38, .getstatic 65, 3, 4), (41, .invokevirtual 61, 3, 3), (44, .ifCond .eq 73, 3, 2), (47, .aload_n 1, 1, 0)],
  [(48, .getstatic 55, 3, 4), (51, .invokevirtual 61, 3, 3), (54, .istore 7, 2, 0), (56, .iload 7, 2, 0), (58, .ifCond .ne 14, 3, 2), (61, .iload 5, 2, 0), (63, .ifCond .eq 9, 3, 2)],
  [(66, .aload_n 0, 1, 0), (67, .iconst 2, 1, 0), (68, .iconst 0, 1, 0), (69, .invokevirtual 68, 3, 3), (72, .iload 5, 2, 0), (74, .iload 7, 2, 0), (76, .ifCond .ne 7, 3, 2), (79, .iconst 1, 1, 0)],
  [(80, .goto 4, 3, 2), (83, .iconst 0, 1, 0), (84, .ior, 1, 0), (85, .istore 5, 2, 0), (87, .aload_n 1, 1, 0), (88, .invokevirtual 72, 3, 3), (91, .aload_n 0, 1, 0), (92, .aload_n 1, 1, 0), (93, .aload_n 2, 1, 0), (94, .iload_n 3, 1, 0), (95, .invokevirtual 52, 3, 3)],
  [(98, .istore 4, 2, 0), (100, .iload 7, 2, 0), (102, .ifCond .eq 9, 3, 2), (105, .aload_n 0, 1, 0), (106, .iconst 1, 1, 0), (107, .iconst 0, 1, 0), (108, .invokevirtual 68, 3, 3), (111, .iinc 6 1, 3, 0)],
  [(114, .goto (-99), 3, 2), (117, .iload 5, 2, 0), (119, .ifCond .eq 9, 3, 2), (122, .aload_n 0, 1, 0), (123, .iconst 2, 1, 0), (124, .iconst 0, 1, 0), (125, .invokevirtual 68, 3, 3)],
  [(128, .iload 4, 2, 0), (130, .ireturn, 1, 6)]]
theorem nn_d174 : ab_dtok prog_7_method_5_code nn_dt174 = true := dw_ok (by decide +kernel)
def nn_dt175 : ab_DT := [[(0, .aload_n 1, 1, 0), (1, .invokestatic 75, 3, 3), (4, .istore 4, 2, 0), (6, .aload_n 1, 1, 0), (7, .getfield 45, 3, 1), (10, .bipush 40, 2, 0), (12, .if_icmp .ne 7, 3, 2), (15, .iconst 1, 1, 0)],
  [(16, .goto 4, 3, 2), (19, .iconst 0, 1, 0), (20, .istore 5, 2, 0), (22, .iload 4, 2, 0), (24, .iconst (-1), 1, 0), (25, .if_icmp .ne 14, 3, 2), (28, .iload 5, 2, 0), (30, .ifCond .ne 9, 3, 2)],
  [(33, .aload_n 1, 1, 0), (34, .iconst 1, 1, 0), (35, .invokevirtual 48, 3, 3), (38, .ireturn, 1, 6), (39, .aload_n 0, 1, 0), (40, .getfield 25, 3, 1), (43, .bipush 20, 2, 0), (45, .if_icmp .ge 9, 3, 2)],
  [(48, .iload_n 3, 1, 0), (49, .bipush 8, 2, 0), (51, .if_icmp .le 9, 3, 2), (54, .aload_n 1, 1, 0), (55, .iconst 4, 1, 0), (56, .invokevirtual 48, 3, 3), (59, .ireturn, 1, 6), (60, .aload_n 0, 1, 0), (61, .dup, 1, 0), (62, .getfield 25, 3, 1)],
  [(65, .iconst 1, 1, 0), (66, .iadd, 1, 0), (67, .putfield 25, 3, 1), (70, .aload_n 1, 1, 0), (71, .invokevirtual 72, 3, 3), (74, .iload 5, 2, 0), (76, .ifCond .eq 30, 3, 2), (79, .aload_n 0, 1, 0)],
  [(80, .aload_n 1, 1, 0), (81, .aload_n 2, 1, 0), (82, .iload_n 3, 1, 0), (83, .iconst 1, 1, 0), (84, .iadd, 1, 0), (85, .invokevirtual 41, 3, 3), (88, .ifCond .eq 16, 3, 2), (91, .aload_n 1, 1, 0), (92, .bipush 41, 2, 0), (94, .invokevirtual 79, 3, 3)],
  [(97, .ifCond .eq 7, 3, 2), (100, .iconst 1, 1, 0), (101, .goto 4, 3, 2), (104, .iconst 0, 1, 0), (105, .ireturn, 1, 6), (106, .iload 4, 2, 0), (108, .ifCond .ne 23, 3, 2), (111, .aload_n 0, 1, 0)],
  [(112, .aload_n 1, 1, 0), (113, .aload_n 2, 1, 0), (114, .iload_n 3, 1, 0), (115, .iconst 1, 1, 0), (116, .iadd, 1, 0), (117, .invokevirtual 52, 3, 3), (120, .istore 6, 2, 0), (122, .aload_n 0, 1, 0), (123, .iconst 0, 1, 0), (124, .iconst 0, 1, 0), (125, .invokevirtual 68, 3, 3)],
  [(128, .iload 6, 2, 0), (130, .ireturn, 1, 6), (131, .iload 4, 2, 0), (133, .bipush 6, 2, 0), (135, .if_icmp .ge 14, 3, 2), (138, .aload_n 0, 1, 0), (139, .aload_n 1, 1, 0), (140, .aload_n 2, 1, 0), (141, .iload 4, 2, 0), (143, .invokevirtual 82, 3, 3)],
  [(146, .goto 10, 3, 2), (149, .aload_n 0, 1, 0), (150, .aload_n 1, 1, 0), (151, .iload 4, 2, 0), (153, .invokevirtual 85, 3, 3), (156, .ireturn, 1, 6)]]
theorem nn_d175 : ab_dtok prog_7_method_6_code nn_dt175 = true := dw_ok (by decide +kernel)
def nn_dt176 : ab_DT := [[(0, .aload_n 0, 1, 0), (1, .getstatic 117, 3, 4), (4, .invokevirtual 61, 3, 3), (7, .ifCond .eq 5, 3, 2), (10, .iconst 0, 1, 0), (11, .ireturn, 1, 6), (12, .aload_n 0, 1, 0), (13, .getstatic 120, 3, 4)],
  [(16, .invokevirtual 61, 3, 3), (19, .ifCond .eq 5, 3, 2), (22, .iconst 3, 1, 0), (23, .ireturn, 1, 6), (24, .aload_n 0, 1, 0), (25, .getstatic 123, 3, 4), (28, .invokevirtual 61, 3, 3), (31, .ifCond .eq 5, 3, 2)],
  [(34, .iconst 4, 1, 0), (35, .ireturn, 1, 6), (36, .aload_n 0, 1, 0), (37, .getstatic 126, 3, 4), (40, .invokevirtual 61, 3, 3), (43, .ifCond .eq 5, 3, 2), (46, .iconst 5, 1, 0), (47, .ireturn, 1, 6)],
  [(48, .aload_n 0, 1, 0), (49, .getstatic 129, 3, 4), (52, .invokevirtual 61, 3, 3), (55, .ifCond .eq 6, 3, 2), (58, .bipush 6, 2, 0), (60, .ireturn, 1, 6), (61, .aload_n 0, 1, 0), (62, .getstatic 132, 3, 4)],
  [(65, .invokevirtual 61, 3, 3), (68, .ifCond .eq 6, 3, 2), (71, .bipush 9, 2, 0), (73, .ireturn, 1, 6), (74, .aload_n 0, 1, 0), (75, .getstatic 135, 3, 4), (78, .invokevirtual 61, 3, 3)],
  [(81, .ifCond .eq 6, 3, 2), (84, .bipush 12, 2, 0), (86, .ireturn, 1, 6), (87, .aload_n 0, 1, 0), (88, .getstatic 138, 3, 4), (91, .invokevirtual 61, 3, 3), (94, .ifCond .eq 8, 3, 2)],
  [(97, .bipush 15, 2, 0), (99, .goto 4, 3, 2), (102, .iconst (-1), 1, 0), (103, .ireturn, 1, 6)]]
theorem nn_d176 : ab_dtok prog_7_method_9_code nn_dt176 = true := dw_ok (by decide +kernel)
def nn_dt177 : ab_DT := [[(0, .aload_n 0, 1, 0), (1, .getfield 11, 3, 1), (4, .aload_n 0, 1, 0), (5, .getfield 21, 3, 1), (8, .iload_n 1, 1, 0), (9, .invokestatic 141, 3, 3), (12, .aload_n 0, 1, 0), (13, .getfield 15, 3, 1)],
  [(16, .aload_n 0, 1, 0), (17, .getfield 21, 3, 1), (20, .iload_n 2, 1, 0), (21, .invokestatic 141, 3, 3), (24, .aload_n 0, 1, 0), (25, .dup, 1, 0), (26, .getfield 21, 3, 1), (29, .iconst 1, 1, 0), (30, .iadd, 1, 0), (31, .putfield 21, 3, 1)],
  [(34, .return_, 1, 6)]]
theorem nn_d177 : ab_dtok prog_7_method_10_code nn_dt177 = true := dw_ok (by decide +kernel)
def nn_dt178 : ab_DT := [[(0, .iload_n 3, 1, 0), (1, .iconst 3, 1, 0), (2, .if_icmp .ne 20, 3, 2), (5, .aload_n 1, 1, 0), (6, .aload_n 2, 1, 0), (7, .getfield 89, 3, 1), (10, .aload_n 2, 1, 0), (11, .getfield 95, 3, 1), (14, .invokevirtual 98, 3, 3)],
  [(17, .istore 4, 2, 0), (19, .goto 39, 3, 2), (22, .iload_n 3, 1, 0), (23, .iconst 4, 1, 0), (24, .if_icmp .ne 20, 3, 2), (27, .aload_n 1, 1, 0), (28, .aload_n 2, 1, 0), (29, .getfield 102, 3, 1)],
  [(32, .aload_n 2, 1, 0), (33, .getfield 105, 3, 1), (36, .invokevirtual 98, 3, 3), (39, .istore 4, 2, 0), (41, .goto 17, 3, 2), (44, .aload_n 1, 1, 0), (45, .aload_n 2, 1, 0), (46, .getfield 108, 3, 1)],
  [(49, .aload_n 2, 1, 0), (50, .getfield 111, 3, 1), (53, .invokevirtual 98, 3, 3), (56, .istore 4, 2, 0), (58, .iload 4, 2, 0), (60, .iconst (-1), 1, 0), (61, .if_icmp .ne 5, 3, 2)],
  [(64, .iconst 0, 1, 0), (65, .ireturn, 1, 6), (66, .aload_n 0, 1, 0), (67, .iload_n 3, 1, 0), (68, .iload 4, 2, 0), (70, .invokevirtual 68, 3, 3), (73, .aload_n 1, 1, 0), (74, .invokevirtual 72, 3, 3), (77, .iconst 1, 1, 0), (78, .ireturn, 1, 6)]]
theorem nn_d178 : ab_dtok prog_7_method_7_code nn_dt178 = true := dw_ok (by decide +kernel)
def nn_dt179 : ab_DT := [[(0, .aload_n 1, 1, 0), (1, .getfield 45, 3, 1), (4, .bipush 60, 2, 0), (6, .isub, 1, 0), (7, .istore_n 3, 1, 0), (8, .iload_n 3, 1, 0), (9, .ifCond .lt 8, 3, 2), (12, .iload_n 3, 1, 0), (13, .iconst 2, 1, 0), (14, .if_icmp .le 9, 3, 2)],
  [(17, .aload_n 1, 1, 0), (18, .iconst 1, 1, 0), (19, .invokevirtual 48, 3, 3), (22, .ireturn, 1, 6), (23, .aload_n 1, 1, 0), (24, .invokevirtual 72, 3, 3), (27, .aload_n 1, 1, 0), (28, .getfield 45, 3, 1), (31, .iconst 3, 1, 0)],
  [(32, .if_icmp .eq 9, 3, 2), (35, .aload_n 1, 1, 0), (36, .iconst 1, 1, 0), (37, .invokevirtual 48, 3, 3), (40, .ireturn, 1, 6), (41, .aload_n 0, 1, 0), (42, .iload_n 2, 1, 0), (43, .iload_n 3, 1, 0), (44, .iadd, 1, 0), (45, .aload_n 1, 1, 0), (46, .getfield 114, 3, 1)],
  [(49, .invokevirtual 68, 3, 3), (52, .aload_n 1, 1, 0), (53, .invokevirtual 72, 3, 3), (56, .iconst 1, 1, 0), (57, .ireturn, 1, 6)]]
theorem nn_d179 : ab_dtok prog_7_method_8_code nn_dt179 = true := dw_ok (by decide +kernel)
def nn_dt180 : ab_DT := [[(0, .aload_n 0, 1, 0), (1, .getfield 19, 3, 1), (4, .getfield 434, 3, 1), (7, .getfield 440, 3, 1), (10, .iconst 1, 1, 0), (11, .if_icmp .lt 8, 3, 2), (14, .iload_n 1, 1, 0), (15, .iconst (-1), 1, 0)],
  [(16, .if_icmp .ge 5, 3, 2), (19, .iconst (-1), 1, 0), (20, .ireturn, 1, 6), (21, .aload_n 0, 1, 0), (22, .getfield 19, 3, 1), (25, .getfield 434, 3, 1), (28, .aload_n 0, 1, 0), (29, .getfield 19, 3, 1)],
  [(32, .invokevirtual 443, 3, 3), (35, .istore_n 2, 1, 0), (36, .iload_n 1, 1, 0), (37, .iconst (-1), 1, 0), (38, .if_icmp .ne 10, 3, 2), (41, .iload_n 2, 1, 0), (42, .invokestatic 324, 3, 3), (45, .goto 8, 3, 2)],
  [(48, .iload_n 2, 1, 0), (49, .iload_n 1, 1, 0), (50, .invokestatic 446, 3, 3), (53, .ireturn, 1, 6)]]
theorem nn_d180 : ab_dtok prog_1_method_56_code nn_dt180 = true := dw_ok (by decide +kernel)
def nn_dt181 : ab_DT := [[(0, .iconst 0, 1, 0), (1, .istore_n 2, 1, 0), (2, .iconst 0, 1, 0), (3, .istore_n 3, 1, 0), (4, .iload_n 3, 1, 0), (5, .aload_n 0, 1, 0), (6, .getfield 21, 3, 1), (9, .if_icmp .ge 152, 3, 2), (12, .iload_n 3, 1, 0), (13, .bipush 64, 2, 0), (15, .if_icmp .ge 146, 3, 2)],
  [(18, .aload_n 0, 1, 0), (19, .getfield 11, 3, 1), (22, .iload_n 3, 1, 0), (23, .iaload, 1, 1), (24, .istore 4, 2, 0), (26, .iload 4, 2, 0), (28, .ifCond .ne 33, 3, 2), (31, .aload_n 0, 1, 0)],
  [(32, .getfield 18, 3, 1), (35, .iload_n 2, 1, 0), (36, .iconst 1, 1, 0), (37, .isub, 1, 0), (38, .aload_n 1, 1, 0), (39, .invokevirtual 145, 3, 3), (42, .aload_n 0, 1, 0), (43, .getfield 18, 3, 1), (46, .iload_n 2, 1, 0), (47, .iconst 1, 1, 0)],
  [(48, .isub, 1, 0), (49, .invokestatic 149, 3, 3), (52, .iconst (-1), 1, 0), (53, .ixor, 1, 0), (54, .iand, 1, 0), (55, .invokestatic 141, 3, 3), (58, .goto 97, 3, 2), (61, .iload 4, 2, 0), (63, .iconst 1, 1, 0)],
  [(64, .if_icmp .eq 9, 3, 2), (67, .iload 4, 2, 0), (69, .iconst 2, 1, 0), (70, .if_icmp .ne 62, 3, 2), (73, .aload_n 0, 1, 0), (74, .getfield 18, 3, 1), (77, .iload_n 2, 1, 0), (78, .iconst 2, 1, 0), (79, .isub, 1, 0)],
  [(80, .invokestatic 149, 3, 3), (83, .istore 5, 2, 0), (85, .aload_n 0, 1, 0), (86, .getfield 18, 3, 1), (89, .iload_n 2, 1, 0), (90, .iconst 1, 1, 0), (91, .isub, 1, 0), (92, .invokestatic 149, 3, 3), (95, .istore 6, 2, 0)],
  [(97, .iinc 2 (-1), 3, 0), (100, .aload_n 0, 1, 0), (101, .getfield 18, 3, 1), (104, .iload_n 2, 1, 0), (105, .iconst 1, 1, 0), (106, .isub, 1, 0), (107, .iload 4, 2, 0), (109, .iconst 1, 1, 0), (110, .if_icmp .ne 11, 3, 2)],
  [(113, .iload 5, 2, 0), (115, .iload 6, 2, 0), (117, .iand, 1, 0), (118, .goto 8, 3, 2), (121, .iload 5, 2, 0), (123, .iload 6, 2, 0), (125, .ior, 1, 0), (126, .invokestatic 141, 3, 3)],
  [(129, .goto 26, 3, 2), (132, .aload_n 0, 1, 0), (133, .getfield 18, 3, 1), (136, .iload_n 2, 1, 0), (137, .aload_n 1, 1, 0), (138, .iload 4, 2, 0), (140, .aload_n 0, 1, 0), (141, .getfield 15, 3, 1)],
  [(144, .iload_n 3, 1, 0), (145, .iaload, 1, 1), (146, .invokestatic 153, 3, 3), (149, .invokestatic 141, 3, 3), (152, .iinc 2 1, 3, 0), (155, .iinc 3 1, 3, 0), (158, .goto (-154), 3, 2)],
  [(161, .aload_n 0, 1, 0), (162, .getfield 18, 3, 1), (165, .iconst 0, 1, 0), (166, .invokestatic 149, 3, 3), (169, .ireturn, 1, 6)]]
theorem nn_d181 : ab_dtok prog_7_method_11_code nn_dt181 = true := dw_ok (by decide +kernel)
def nn_dt182 : ab_DT := [[(0, .iload_n 1, 1, 0), (1, .iconst 3, 1, 0), (2, .if_icmp .ne 9, 3, 2), (5, .aload_n 0, 1, 0), (6, .iload_n 2, 1, 0), (7, .invokevirtual 157, 3, 3), (10, .ireturn, 1, 6), (11, .iload_n 1, 1, 0), (12, .iconst 5, 1, 0), (13, .if_icmp .ne 15, 3, 2)],
  [(16, .aload_n 0, 1, 0), (17, .iload_n 2, 1, 0), (18, .iconst 3, 1, 0), (19, .iconst 0, 1, 0), (20, .aload_n 0, 1, 0), (21, .invokevirtual 145, 3, 3), (24, .invokevirtual 161, 3, 3), (27, .ireturn, 1, 6), (28, .iconst 0, 1, 0), (29, .istore_n 3, 1, 0), (30, .iconst 0, 1, 0), (31, .istore 4, 2, 0)],
  [(33, .iload 4, 2, 0), (35, .aload_n 0, 1, 0), (36, .getfield 111, 3, 1), (39, .if_icmp .ge 60, 3, 2), (42, .iload_n 1, 1, 0), (43, .iconst 4, 1, 0), (44, .if_icmp .ne 23, 3, 2), (47, .aload_n 0, 1, 0)],
  [(48, .iload_n 2, 1, 0), (49, .iload 4, 2, 0), (51, .invokevirtual 165, 3, 3), (54, .bipush 9, 2, 0), (56, .if_icmp .ne 7, 3, 2), (59, .iconst 1, 1, 0), (60, .goto 15, 3, 2), (63, .iconst 0, 1, 0)],
  [(64, .goto 11, 3, 2), (67, .aload_n 0, 1, 0), (68, .iload 4, 2, 0), (70, .iload_n 1, 1, 0), (71, .iload_n 2, 1, 0), (72, .invokestatic 169, 3, 3), (75, .istore 5, 2, 0), (77, .iload_n 3, 1, 0), (78, .iload 5, 2, 0)],
  [(80, .ifCond .eq 10, 3, 2), (83, .iconst 1, 1, 0), (84, .iload 4, 2, 0), (86, .ishl, 1, 0), (87, .goto 4, 3, 2), (90, .iconst 0, 1, 0), (91, .ior, 1, 0), (92, .istore_n 3, 1, 0), (93, .iinc 4 1, 3, 0)],
  [(96, .goto (-63), 3, 2), (99, .iload_n 3, 1, 0), (100, .ireturn, 1, 6)]]
theorem nn_d182 : ab_dtok prog_7_method_12_code nn_dt182 = true := dw_ok (by decide +kernel)
def nn_dt183 : ab_DT := [[(0, .iload_n 2, 1, 0), (1, .bipush 6, 2, 0), (3, .isub, 1, 0), (4, .iconst 3, 1, 0), (5, .idiv, 1, 0), (6, .istore 4, 2, 0), (8, .iload_n 2, 1, 0), (9, .bipush 6, 2, 0), (11, .isub, 1, 0), (12, .iconst 3, 1, 0), (13, .irem, 1, 0), (14, .iconst 1, 1, 0), (15, .isub, 1, 0)],
  [(16, .istore 5, 2, 0), (18, .aload_n 0, 1, 0), (19, .iload_n 1, 1, 0), (20, .iload 4, 2, 0), (22, .invokevirtual 173, 3, 3), (25, .iload_n 3, 1, 0), (26, .invokestatic 176, 3, 3), (29, .iload 5, 2, 0), (31, .if_icmp .ne 7, 3, 2)],
  [(34, .iconst 1, 1, 0), (35, .goto 4, 3, 2), (38, .iconst 0, 1, 0), (39, .ireturn, 1, 6)]]
theorem nn_d183 : ab_dtok prog_7_method_13_code nn_dt183 = true := dw_ok (by decide +kernel)
def nn_dt184 : ab_DT := [[(0, .aload_n 0, 1, 0), (1, .iload_n 1, 1, 0), (2, .invokevirtual 449, 3, 3), (5, .astore_n 2, 1, 0), (6, .aload_n 2, 1, 0), (7, .ifnonnull 5, 3, 2), (10, .iconst 0, 1, 0), (11, .ireturn, 1, 6), (12, .aload_n 2, 1, 0), (13, .aload_n 0, 1, 0), (14, .getfield 19, 3, 1)],
  [(17, .invokevirtual 128, 3, 3), (20, .aload_n 2, 1, 0), (21, .iconst 1, 1, 0), (22, .putfield 453, 3, 1), (25, .iconst 1, 1, 0), (26, .ireturn, 1, 6)]]
theorem nn_d184 : ab_dtok prog_1_method_57_code nn_dt184 = true := dw_ok (by decide +kernel)
def nn_dt185 : ab_DT := [[(0, .iload_n 1, 1, 0), (1, .ifCond .ne 8, 3, 2), (4, .aload_n 0, 1, 0), (5, .getfield 23, 3, 1), (8, .areturn, 1, 6), (9, .iload_n 1, 1, 0), (10, .iconst 1, 1, 0), (11, .if_icmp .ne 10, 3, 2), (14, .aload_n 0, 1, 0), (15, .getfield 26, 3, 1)],
  [(18, .goto 4, 3, 2), (21, .aconst_null, 1, 0), (22, .areturn, 1, 6)]]
theorem nn_d185 : ab_dtok prog_1_method_60_code nn_dt185 = true := dw_ok (by decide +kernel)
def nn_dt186 : ab_DT := [[(0, .aload_n 0, 1, 0), (1, .iload_n 1, 1, 0), (2, .invokevirtual 449, 3, 3), (5, .astore_n 2, 1, 0), (6, .aload_n 2, 1, 0), (7, .ifnull 10, 3, 2), (10, .aload_n 2, 1, 0), (11, .getfield 453, 3, 1), (14, .ifCond .ne 5, 3, 2)],
  [(17, .iconst 0, 1, 0), (18, .ireturn, 1, 6), (19, .aload_n 0, 1, 0), (20, .getfield 19, 3, 1), (23, .aload_n 2, 1, 0), (24, .invokevirtual 128, 3, 3), (27, .aload_n 0, 1, 0), (28, .getfield 76, 3, 1), (31, .iconst 0, 1, 0)],
  [(32, .putfield 135, 3, 1), (35, .iconst 1, 1, 0), (36, .ireturn, 1, 6)]]
theorem nn_d186 : ab_dtok prog_1_method_58_code nn_dt186 = true := dw_ok (by decide +kernel)
def nn_dt187 : ab_DT := [[(0, .iload_n 1, 1, 0), (1, .tableswitch 75 0 4 #[35, 43, 51, 59, 67], 35, 2)],
  [],
  [(36, .aload_n 0, 1, 0), (37, .getfield 19, 3, 1), (40, .getfield 317, 3, 1), (43, .ireturn, 1, 6), (44, .aload_n 0, 1, 0), (45, .getfield 19, 3, 1)],
  [(48, .getfield 269, 3, 1), (51, .ireturn, 1, 6), (52, .aload_n 0, 1, 0), (53, .getfield 19, 3, 1), (56, .getfield 314, 3, 1), (59, .ireturn, 1, 6), (60, .aload_n 0, 1, 0), (61, .getfield 19, 3, 1)],
  [(64, .getfield 456, 3, 1), (67, .ireturn, 1, 6), (68, .aload_n 0, 1, 0), (69, .getfield 10, 3, 1), (72, .getfield 116, 3, 1), (75, .ireturn, 1, 6), (76, .iconst (-1), 1, 0), (77, .ireturn, 1, 6)]]
theorem nn_d187 : ab_dtok prog_1_method_59_code nn_dt187 = true := dw_ok (by decide +kernel)
def nn_dt188 : ab_DT := [[(0, .aload_n 0, 1, 0), (1, .iload_n 1, 1, 0), (2, .iload_n 2, 1, 0), (3, .iload_n 3, 1, 0), (4, .iload 4, 2, 0), (6, .invokevirtual 207, 3, 3), (9, .ifCond .eq 11, 3, 2), (12, .iload 5, 2, 0), (14, .invokestatic 146, 3, 3)],
  [(17, .ifCond .ne 13, 3, 2), (20, .new 211, 3, 9), (23, .dup, 1, 0), (24, .ldc 213, 2, 5), (26, .invokespecial 215, 3, 9), (29, .athrow, 1, 9), (30, .aload_n 0, 1, 0), (31, .iload_n 1, 1, 0)],
  [(32, .iload_n 2, 1, 0), (33, .iload_n 3, 1, 0), (34, .iload 4, 2, 0), (36, .invokevirtual 218, 3, 3), (39, .ldc2_w 222, 3, 0), (42, .iload 5, 2, 0), (44, .invokestatic 224, 3, 3), (47, .lreturn, 1, 6)]]
theorem nn_d188 : ab_dtok prog_1_method_15_code nn_dt188 = true := dw_ok (by decide +kernel)
def nn_dt189 : ab_DT := [[(0, .aload_n 0, 1, 0), (1, .getfield 19, 3, 1), (4, .iload_n 1, 1, 0), (5, .invokevirtual 173, 3, 3), (8, .ifCond .eq 42, 3, 2), (11, .iload_n 3, 1, 0), (12, .invokestatic 184, 3, 3), (15, .ifCond .eq 35, 3, 2)],
  [(18, .aload_n 0, 1, 0), (19, .getfield 19, 3, 1), (22, .iload 4, 2, 0), (24, .invokevirtual 166, 3, 3), (27, .ifCond .eq 23, 3, 2), (30, .aload_n 0, 1, 0), (31, .getfield 19, 3, 1)],
  [(34, .iload 4, 2, 0), (36, .invokevirtual 169, 3, 3), (39, .iload_n 2, 1, 0), (40, .invokestatic 197, 3, 3), (43, .ifCond .eq 7, 3, 2), (46, .iconst 1, 1, 0), (47, .goto 4, 3, 2)],
  [(50, .iconst 0, 1, 0), (51, .ireturn, 1, 6)]]
theorem nn_d189 : ab_dtok prog_1_method_61_code nn_dt189 = true := dw_ok (by decide +kernel)
def nn_dt190 : ab_DT := [[(0, .aload_n 0, 1, 0), (1, .getfield 55, 3, 1), (4, .aload_n 0, 1, 0), (5, .getfield 19, 3, 1), (8, .iload_n 3, 1, 0), (9, .aload_n 0, 1, 0), (10, .getfield 19, 3, 1), (13, .iload 4, 2, 0), (15, .invokevirtual 169, 3, 3)],
  [(18, .invokevirtual 320, 3, 3), (21, .aload_n 0, 1, 0), (22, .getfield 55, 3, 1), (25, .aload_n 0, 1, 0), (26, .getfield 19, 3, 1), (29, .iload_n 1, 1, 0), (30, .iconst 0, 1, 0), (31, .invokevirtual 329, 3, 3)],
  [(34, .aload_n 0, 1, 0), (35, .getfield 55, 3, 1), (38, .iload_n 2, 1, 0), (39, .invokevirtual 459, 3, 3), (42, .lreturn, 1, 6)]]
theorem nn_d190 : ab_dtok prog_1_method_64_code nn_dt190 = true := dw_ok (by decide +kernel)
def nn_dt191 : ab_DT := [[(0, .aload_n 0, 1, 0), (1, .getfield 15, 3, 1), (4, .iload_n 1, 1, 0), (5, .invokestatic 40, 3, 3), (8, .istore_n 2, 1, 0), (9, .iconst 0, 1, 0), (10, .istore_n 3, 1, 0), (11, .iconst 0, 1, 0), (12, .istore 4, 2, 0), (14, .iload 4, 2, 0)],
  [(16, .aload_n 0, 1, 0), (17, .getfield 18, 3, 1), (20, .arraylength, 1, 1), (21, .if_icmp .ge 26, 3, 2), (24, .aload_n 0, 1, 0), (25, .getfield 18, 3, 1), (28, .iload 4, 2, 0), (30, .iload 4, 2, 0)],
  [(32, .ifCond .ne 7, 3, 2), (35, .lconst 1, 1, 0), (36, .goto 4, 3, 2), (39, .lconst 0, 1, 0), (40, .lastore, 1, 1), (41, .iinc 4 1, 3, 0), (44, .goto (-30), 3, 2), (47, .iconst 0, 1, 0)],
  [(48, .istore 4, 2, 0), (50, .iload 4, 2, 0), (52, .aload_n 0, 1, 0), (53, .getfield 9, 3, 1), (56, .arraylength, 1, 1), (57, .if_icmp .ge 38, 3, 2), (60, .iload 4, 2, 0), (62, .iload_n 1, 1, 0), (63, .if_icmp .eq 26, 3, 2)],
  [(66, .iload_n 2, 1, 0), (67, .iload 4, 2, 0), (69, .invokestatic 26, 3, 3), (72, .ifCond .eq 17, 3, 2), (75, .iinc 3 1, 3, 0), (78, .aload_n 0, 1, 0), (79, .aload_n 0, 1, 0)],
  [(80, .getfield 9, 3, 1), (83, .iload 4, 2, 0), (85, .iaload, 1, 1), (86, .invokevirtual 44, 3, 3), (89, .iinc 4 1, 3, 0), (92, .goto (-42), 3, 2), (95, .lconst 0, 1, 0)],
  [(96, .lstore 4, 2, 0), (98, .iconst 0, 1, 0), (99, .istore 6, 2, 0), (101, .iload 6, 2, 0), (103, .aload_n 0, 1, 0), (104, .getfield 18, 3, 1), (107, .arraylength, 1, 1), (108, .if_icmp .ge 31, 3, 2), (111, .lload 4, 2, 0)],
  [(113, .aload_n 0, 1, 0), (114, .getfield 18, 3, 1), (117, .iload 6, 2, 0), (119, .laload, 1, 1), (120, .getstatic 48, 3, 4), (123, .iload 6, 2, 0), (125, .invokestatic 40, 3, 3)],
  [(128, .i2l, 1, 0), (129, .lmul, 1, 0), (130, .ladd, 1, 0), (131, .lstore 4, 2, 0), (133, .iinc 6 1, 3, 0), (136, .goto (-35), 3, 2), (139, .aload_n 0, 1, 0), (140, .getfield 9, 3, 1), (143, .iload_n 1, 1, 0)],
  [(144, .invokestatic 40, 3, 3), (147, .i2l, 1, 0), (148, .lload 4, 2, 0), (150, .lmul, 1, 0), (151, .getstatic 51, 3, 4), (154, .bipush 8, 2, 0), (156, .iload_n 3, 1, 0), (157, .isub, 1, 0), (158, .invokestatic 54, 3, 3)],
  [(161, .lmul, 1, 0), (162, .lreturn, 1, 6)]]
theorem nn_d191 : ab_dtok prog_3_method_4_code nn_dt191 = true := dw_ok (by decide +kernel)
def nn_dt192 : ab_DT := [[(0, .aload_n 0, 1, 0), (1, .getfield 18, 3, 1), (4, .arraylength, 1, 1), (5, .iconst 1, 1, 0), (6, .isub, 1, 0), (7, .istore_n 2, 1, 0), (8, .iload_n 2, 1, 0), (9, .ifCond .lt 41, 3, 2), (12, .aload_n 0, 1, 0), (13, .getfield 18, 3, 1)],
  [(16, .iload_n 2, 1, 0), (17, .aload_n 0, 1, 0), (18, .getfield 18, 3, 1), (21, .iload_n 2, 1, 0), (22, .laload, 1, 1), (23, .bipush 9, 2, 0), (25, .iload_n 1, 1, 0), (26, .isub, 1, 0), (27, .i2l, 1, 0), (28, .lmul, 1, 0), (29, .aload_n 0, 1, 0), (30, .getfield 18, 3, 1)],
  [(33, .iload_n 2, 1, 0), (34, .iconst 1, 1, 0), (35, .isub, 1, 0), (36, .invokestatic 54, 3, 3), (39, .iload_n 1, 1, 0), (40, .i2l, 1, 0), (41, .lmul, 1, 0), (42, .ladd, 1, 0), (43, .lastore, 1, 1), (44, .iinc 2 (-1), 3, 0), (47, .goto (-39), 3, 2)],
  [(50, .return_, 1, 6)]]
theorem nn_d192 : ab_dtok prog_3_method_5_code nn_dt192 = true := dw_ok (by decide +kernel)
def nn_dt193 : ab_DT := [[(0, .lload_n 0, 1, 0), (1, .lstore 5, 2, 0), (3, .lload_n 2, 1, 0), (4, .lstore 7, 2, 0), (6, .iconst 0, 1, 0), (7, .istore 9, 2, 0), (9, .iload 9, 2, 0), (11, .sipush 200, 3, 0), (14, .if_icmp .ge 31, 3, 2)],
  [(17, .lload 7, 2, 0), (19, .lconst 0, 1, 0), (20, .lcmp, 1, 2), (21, .ifCond .eq 24, 3, 2), (24, .lload 5, 2, 0), (26, .lload 7, 2, 0), (28, .lrem, 1, 0), (29, .lstore 10, 2, 0), (31, .lload 7, 2, 0)],
  [(33, .lstore 5, 2, 0), (35, .lload 10, 2, 0), (37, .lstore 7, 2, 0), (39, .iinc 9 1, 3, 0), (42, .goto (-33), 3, 2), (45, .lload 5, 2, 0), (47, .lconst 0, 1, 0)],
  [(48, .lcmp, 1, 2), (49, .ifCond .ne 5, 3, 2), (52, .lconst 0, 1, 0), (53, .lreturn, 1, 6), (54, .iload 4, 2, 0), (56, .ifCond .ne 10, 3, 2), (59, .lload_n 0, 1, 0), (60, .lload 5, 2, 0), (62, .ldiv, 1, 0), (63, .goto 7, 3, 2)],
  [(66, .lload_n 2, 1, 0), (67, .lload 5, 2, 0), (69, .ldiv, 1, 0), (70, .lreturn, 1, 6)]]
theorem nn_d193 : ab_dtok prog_1_method_79_code nn_dt193 = true := dw_ok (by decide +kernel)
def nn_dt194 : ab_DT := [[(0, .aload_n 0, 1, 0), (1, .getfield 19, 3, 1), (4, .iload_n 1, 1, 0), (5, .invokevirtual 173, 3, 3), (8, .ifCond .eq 29, 3, 2), (11, .iload_n 2, 1, 0), (12, .invokestatic 184, 3, 3), (15, .ifCond .eq 22, 3, 2)],
  [(18, .aload_n 0, 1, 0), (19, .getfield 19, 3, 1), (22, .iload_n 3, 1, 0), (23, .invokevirtual 166, 3, 3), (26, .ifCond .eq 11, 3, 2), (29, .iload 4, 2, 0), (31, .invokestatic 146, 3, 3)],
  [(34, .ifCond .ne 13, 3, 2), (37, .new 211, 3, 9), (40, .dup, 1, 0), (41, .ldc 213, 2, 5), (43, .invokespecial 215, 3, 9), (46, .athrow, 1, 9), (47, .aload_n 0, 1, 0)],
  [(48, .iload_n 1, 1, 0), (49, .iload_n 2, 1, 0), (50, .aload_n 0, 1, 0), (51, .getfield 19, 3, 1), (54, .iload_n 3, 1, 0), (55, .invokevirtual 169, 3, 3), (58, .invokevirtual 228, 3, 3), (61, .ldc2_w 222, 3, 0)],
  [(64, .iload 4, 2, 0), (66, .invokestatic 224, 3, 3), (69, .lreturn, 1, 6)]]
theorem nn_d194 : ab_dtok prog_1_method_16_code nn_dt194 = true := dw_ok (by decide +kernel)
def nn_dt195 : ab_DT := [[(0, .aload_n 0, 1, 0), (1, .iload_n 1, 1, 0), (2, .iload_n 2, 1, 0), (3, .iload_n 3, 1, 0), (4, .iload 4, 2, 0), (6, .invokevirtual 239, 3, 3), (9, .ifCond .eq 11, 3, 2), (12, .iload 5, 2, 0), (14, .invokestatic 146, 3, 3)],
  [(17, .ifCond .ne 13, 3, 2), (20, .new 211, 3, 9), (23, .dup, 1, 0), (24, .ldc 213, 2, 5), (26, .invokespecial 215, 3, 9), (29, .athrow, 1, 9), (30, .aload_n 0, 1, 0), (31, .iload_n 1, 1, 0)],
  [(32, .iload_n 2, 1, 0), (33, .iload 4, 2, 0), (35, .invokevirtual 242, 3, 3), (38, .aload_n 0, 1, 0), (39, .getfield 62, 3, 1), (42, .iconst 0, 1, 0), (43, .iload_n 3, 1, 0), (44, .invokevirtual 249, 3, 3), (47, .ldc2_w 222, 3, 0)],
  [(50, .iload 5, 2, 0), (52, .invokestatic 224, 3, 3), (55, .lreturn, 1, 6)]]
theorem nn_d195 : ab_dtok prog_1_method_19_code nn_dt195 = true := dw_ok (by decide +kernel)
def nn_dt196 : ab_DT := [[(0, .aload_n 0, 1, 0), (1, .iload_n 1, 1, 0), (2, .iload_n 2, 1, 0), (3, .iload_n 3, 1, 0), (4, .iload 4, 2, 0), (6, .invokevirtual 239, 3, 3), (9, .ifCond .eq 11, 3, 2), (12, .iload 5, 2, 0), (14, .invokestatic 146, 3, 3)],
  [(17, .ifCond .ne 13, 3, 2), (20, .new 211, 3, 9), (23, .dup, 1, 0), (24, .ldc 213, 2, 5), (26, .invokespecial 215, 3, 9), (29, .athrow, 1, 9), (30, .aload_n 0, 1, 0), (31, .iload_n 1, 1, 0)],
  [(32, .iload_n 2, 1, 0), (33, .iload 4, 2, 0), (35, .invokevirtual 253, 3, 3), (38, .aload_n 0, 1, 0), (39, .getfield 62, 3, 1), (42, .iconst 0, 1, 0), (43, .iload_n 3, 1, 0), (44, .invokevirtual 249, 3, 3), (47, .ldc2_w 222, 3, 0)],
  [(50, .iload 5, 2, 0), (52, .invokestatic 224, 3, 3), (55, .lreturn, 1, 6)]]
theorem nn_d196 : ab_dtok prog_1_method_21_code nn_dt196 = true := dw_ok (by decide +kernel)
def nn_dt197 : ab_DT := [[(0, .aload_n 0, 1, 0), (1, .iload_n 1, 1, 0), (2, .iload_n 2, 1, 0), (3, .iload_n 3, 1, 0), (4, .iload 4, 2, 0), (6, .invokevirtual 207, 3, 3), (9, .ifCond .eq 19, 3, 2), (12, .iload 5, 2, 0), (14, .invokestatic 146, 3, 3)],
  [(17, .ifCond .eq 11, 3, 2), (20, .iload 6, 2, 0), (22, .invokestatic 146, 3, 3), (25, .ifCond .ne 13, 3, 2), (28, .new 211, 3, 9), (31, .dup, 1, 0)],
  [(32, .ldc 213, 2, 5), (34, .invokespecial 215, 3, 9), (37, .athrow, 1, 9), (38, .aload_n 0, 1, 0), (39, .iload_n 1, 1, 0), (40, .iload_n 2, 1, 0), (41, .iload_n 3, 1, 0), (42, .iload 4, 2, 0), (44, .invokevirtual 218, 3, 3), (47, .lstore 7, 2, 0)],
  [(49, .lload 7, 2, 0), (51, .iload 5, 2, 0), (53, .iconst 1, 1, 0), (54, .if_icmp .ne 7, 3, 2), (57, .lconst 0, 1, 0), (58, .goto 6, 3, 2), (61, .ldc2_w 222, 3, 0)],
  [(64, .lcmp, 1, 2), (65, .ifCond .ne 14, 3, 2), (68, .new 211, 3, 9), (71, .dup, 1, 0), (72, .ldc_w 258, 3, 5), (75, .invokespecial 215, 3, 9), (78, .athrow, 1, 9), (79, .iload 5, 2, 0)],
  [(81, .iconst 1, 1, 0), (82, .if_icmp .ne 15, 3, 2), (85, .ldc2_w 222, 3, 0), (88, .ldc2_w 222, 3, 0), (91, .iload 6, 2, 0), (93, .invokestatic 224, 3, 3)],
  [(96, .lreturn, 1, 6), (97, .aload_n 0, 1, 0), (98, .getfield 19, 3, 1), (101, .iload_n 1, 1, 0), (102, .iload_n 2, 1, 0), (103, .invokevirtual 176, 3, 3), (106, .i2l, 1, 0), (107, .ldc2_w 260, 3, 0), (110, .lmul, 1, 0), (111, .lstore 9, 2, 0)],
  [(113, .lload 9, 2, 0), (115, .lload 7, 2, 0), (117, .lsub, 1, 0), (118, .ldc2_w 222, 3, 0), (121, .lload 7, 2, 0), (123, .lsub, 1, 0), (124, .iload 6, 2, 0), (126, .invokestatic 224, 3, 3)],
  [(129, .lreturn, 1, 6)]]
theorem nn_d197 : ab_dtok prog_1_method_23_code nn_dt197 = true := dw_ok (by decide +kernel)
def nn_dt198 : ab_DT := [[(0, .aload_n 0, 1, 0), (1, .getfield 19, 3, 1), (4, .iload_n 1, 1, 0), (5, .invokevirtual 173, 3, 3), (8, .ifCond .eq 34, 3, 2), (11, .iload_n 2, 1, 0), (12, .invokestatic 184, 3, 3), (15, .ifCond .eq 27, 3, 2)],
  [(18, .iload_n 3, 1, 0), (19, .iconst 1, 1, 0), (20, .if_icmp .lt 22, 3, 2), (23, .iload_n 3, 1, 0), (24, .aload_n 0, 1, 0), (25, .getfield 19, 3, 1), (28, .invokevirtual 262, 3, 3), (31, .if_icmp .gt 11, 3, 2)],
  [(34, .iload 4, 2, 0), (36, .invokestatic 146, 3, 3), (39, .ifCond .ne 13, 3, 2), (42, .new 211, 3, 9), (45, .dup, 1, 0), (46, .ldc 213, 2, 5)],
  [(48, .invokespecial 215, 3, 9), (51, .athrow, 1, 9), (52, .aload_n 0, 1, 0), (53, .iload_n 1, 1, 0), (54, .iload_n 2, 1, 0), (55, .iload_n 3, 1, 0), (56, .invokevirtual 228, 3, 3), (59, .ldc2_w 222, 3, 0), (62, .iload 4, 2, 0)],
  [(64, .invokestatic 224, 3, 3), (67, .lreturn, 1, 6)]]
theorem nn_d198 : ab_dtok prog_1_method_24_code nn_dt198 = true := dw_ok (by decide +kernel)
def nn_dt199 : ab_DT := [[(0, .iload_n 1, 1, 0), (1, .invokestatic 353, 3, 3), (4, .ifCond .eq 25, 3, 2), (7, .iload_n 2, 1, 0), (8, .invokestatic 353, 3, 3), (11, .ifCond .eq 18, 3, 2), (14, .iload_n 3, 1, 0), (15, .invokestatic 232, 3, 3)],
  [(18, .ifCond .eq 11, 3, 2), (21, .iload 4, 2, 0), (23, .invokestatic 146, 3, 3), (26, .ifCond .ne 13, 3, 2), (29, .new 211, 3, 9)],
  [(32, .dup, 1, 0), (33, .ldc 213, 2, 5), (35, .invokespecial 215, 3, 9), (38, .athrow, 1, 9), (39, .aload_n 0, 1, 0), (40, .iload_n 3, 1, 0), (41, .iload_n 3, 1, 0), (42, .iconst 0, 1, 0), (43, .invokevirtual 356, 3, 3), (46, .aload_n 0, 1, 0), (47, .iload_n 1, 1, 0)],
  [(48, .iload_n 2, 1, 0), (49, .invokevirtual 360, 3, 3), (52, .i2l, 1, 0), (53, .ldc2_w 363, 3, 0), (56, .iload 4, 2, 0), (58, .invokestatic 224, 3, 3), (61, .lreturn, 1, 6)]]
theorem nn_d199 : ab_dtok prog_1_method_35_code nn_dt199 = true := dw_ok (by decide +kernel)
def nn_DT_160 : List ab_DT := [nn_dt160, nn_dt161, nn_dt162, nn_dt163, nn_dt164, nn_dt165, nn_dt166, nn_dt167, nn_dt168, nn_dt169, nn_dt170, nn_dt171, nn_dt172, nn_dt173, nn_dt174, nn_dt175, nn_dt176, nn_dt177, nn_dt178, nn_dt179, nn_dt180, nn_dt181, nn_dt182, nn_dt183, nn_dt184, nn_dt185, nn_dt186, nn_dt187, nn_dt188, nn_dt189, nn_dt190, nn_dt191, nn_dt192, nn_dt193, nn_dt194, nn_dt195, nn_dt196, nn_dt197, nn_dt198, nn_dt199]
theorem nn_DT_160_ok : ab_dtP nn_MT_160 nn_DT_160 := ⟨nn_d160, nn_d161, nn_d162, nn_d163, nn_d164, nn_d165, nn_d166, nn_d167, nn_d168, nn_d169, nn_d170, nn_d171, nn_d172, nn_d173, nn_d174, nn_d175, nn_d176, nn_d177, nn_d178, nn_d179, nn_d180, nn_d181, nn_d182, nn_d183, nn_d184, nn_d185, nn_d186, nn_d187, nn_d188, nn_d189, nn_d190, nn_d191, nn_d192, nn_d193, nn_d194, nn_d195, nn_d196, nn_d197, nn_d198, nn_d199, trivial⟩
