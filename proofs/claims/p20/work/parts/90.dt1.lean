def nn_dt40 : ab_DT := [[(0, .aload_n 0, 1, 0), (1, .getfield 49, 3, 1), (4, .iload_n 1, 1, 0), (5, .if_icmp .eq 9, 3, 2), (8, .aload_n 0, 1, 0), (9, .iconst 1, 1, 0), (10, .invokevirtual 91, 3, 3), (13, .ireturn, 1, 6), (14, .aload_n 0, 1, 0), (15, .invokevirtual 31, 3, 3)],
  [(18, .iconst 1, 1, 0), (19, .ireturn, 1, 6)]]
theorem nn_d40 : ab_dtok prog_10_method_13_code nn_dt40 = true := dw_ok (by decide +kernel)
def nn_dt41 : ab_DT := [[(0, .iconst 0, 1, 0), (1, .istore_n 1, 1, 0), (2, .iload_n 1, 1, 0), (3, .iconst 4, 1, 0), (4, .if_icmp .ge 61, 3, 2), (7, .iconst 0, 1, 0), (8, .istore_n 2, 1, 0), (9, .iload_n 2, 1, 0), (10, .aload_n 0, 1, 0), (11, .getfield 54, 3, 1), (14, .if_icmp .ge 45, 3, 2)],
  [(17, .iconst 0, 1, 0), (18, .istore_n 3, 1, 0), (19, .iload_n 3, 1, 0), (20, .aload_n 0, 1, 0), (21, .getfield 54, 3, 1), (24, .if_icmp .ge 29, 3, 2), (27, .aload_n 0, 1, 0), (28, .getfield 21, 3, 1), (31, .iload_n 2, 1, 0)],
  [(32, .iload_n 3, 1, 0), (33, .iload_n 1, 1, 0), (34, .invokestatic 122, 3, 3), (37, .aload_n 0, 1, 0), (38, .iload_n 2, 1, 0), (39, .iload_n 3, 1, 0), (40, .iload_n 1, 1, 0), (41, .invokevirtual 126, 3, 3), (44, .invokestatic 99, 3, 3), (47, .iinc 3 1, 3, 0)],
  [(50, .goto (-31), 3, 2), (53, .iinc 2 1, 3, 0), (56, .goto (-47), 3, 2), (59, .iinc 1 1, 3, 0), (62, .goto (-60), 3, 2)],
  [(65, .return_, 1, 6)]]
theorem nn_d41 : ab_dtok prog_8_method_19_code nn_dt41 = true := dw_ok (by decide +kernel)
def nn_dt42 : ab_DT := [[(0, .iload_n 2, 1, 0), (1, .bipush 9, 2, 0), (3, .imul, 1, 0), (4, .iload_n 0, 1, 0), (5, .iadd, 1, 0), (6, .bipush 9, 2, 0), (8, .imul, 1, 0), (9, .iload_n 1, 1, 0), (10, .iadd, 1, 0), (11, .ireturn, 1, 6)]]
theorem nn_d42 : ab_dtok prog_8_method_21_code nn_dt42 = true := dw_ok (by decide +kernel)
def nn_dt43 : ab_DT := [[(0, .iconst 0, 1, 0), (1, .istore 4, 2, 0), (3, .iconst 0, 1, 0), (4, .istore 5, 2, 0), (6, .iload 5, 2, 0), (8, .bipush 9, 2, 0), (10, .if_icmp .ge 24, 3, 2), (13, .aload_n 0, 1, 0), (14, .iload_n 1, 1, 0), (15, .iload_n 2, 1, 0)],
  [(16, .iload 5, 2, 0), (18, .iload_n 3, 1, 0), (19, .invokevirtual 129, 3, 3), (22, .ifCond .eq 12, 3, 2), (25, .iinc 4 1, 3, 0), (28, .iinc 5 1, 3, 0), (31, .goto (-25), 3, 2)],
  [(34, .iload 4, 2, 0), (36, .ireturn, 1, 6)]]
theorem nn_d43 : ab_dtok prog_8_method_20_code nn_dt43 = true := dw_ok (by decide +kernel)
def nn_dt44 : ab_DT := [[(0, .aload_n 0, 1, 0), (1, .iload_n 1, 1, 0), (2, .iload_n 3, 1, 0), (3, .invokevirtual 118, 3, 3), (6, .ifCond .eq 12, 3, 2), (9, .aload_n 0, 1, 0), (10, .iload_n 2, 1, 0), (11, .iload_n 3, 1, 0), (12, .invokevirtual 118, 3, 3), (15, .ifCond .ne 24, 3, 2)],
  [(18, .aload_n 0, 1, 0), (19, .iload_n 1, 1, 0), (20, .iload_n 3, 1, 0), (21, .invokevirtual 118, 3, 3), (24, .aload_n 0, 1, 0), (25, .iload_n 2, 1, 0), (26, .iload_n 3, 1, 0), (27, .invokevirtual 118, 3, 3), (30, .if_icmp .ne 7, 3, 2)],
  [(33, .iconst 1, 1, 0), (34, .goto 4, 3, 2), (37, .iconst 0, 1, 0), (38, .ireturn, 1, 6), (39, .iload 4, 2, 0), (41, .iconst 3, 1, 0), (42, .if_icmp .ne 38, 3, 2), (45, .aload_n 0, 1, 0), (46, .iload_n 1, 1, 0), (47, .iload_n 3, 1, 0)],
  [(48, .invokevirtual 103, 3, 3), (51, .aload_n 0, 1, 0), (52, .iload_n 1, 1, 0), (53, .iconst 0, 1, 0), (54, .invokevirtual 103, 3, 3), (57, .isub, 1, 0), (58, .aload_n 0, 1, 0), (59, .iload_n 2, 1, 0), (60, .iload_n 3, 1, 0), (61, .invokevirtual 103, 3, 3)],
  [(64, .aload_n 0, 1, 0), (65, .iload_n 2, 1, 0), (66, .iconst 0, 1, 0), (67, .invokevirtual 103, 3, 3), (70, .isub, 1, 0), (71, .if_icmp .ne 7, 3, 2), (74, .iconst 1, 1, 0), (75, .goto 4, 3, 2), (78, .iconst 0, 1, 0), (79, .ireturn, 1, 6)],
  [(80, .aload_n 0, 1, 0), (81, .iload_n 1, 1, 0), (82, .iload_n 3, 1, 0), (83, .invokevirtual 103, 3, 3), (86, .aload_n 0, 1, 0), (87, .iload_n 2, 1, 0), (88, .iload_n 3, 1, 0), (89, .invokevirtual 103, 3, 3), (92, .if_icmp .ne 7, 3, 2), (95, .iconst 1, 1, 0)],
  [(96, .goto 4, 3, 2), (99, .iconst 0, 1, 0), (100, .istore 5, 2, 0), (102, .aload_n 0, 1, 0), (103, .iload_n 1, 1, 0), (104, .iload_n 3, 1, 0), (105, .invokevirtual 115, 3, 3), (108, .aload_n 0, 1, 0), (109, .iload_n 2, 1, 0), (110, .iload_n 3, 1, 0), (111, .invokevirtual 115, 3, 3)],
  [(114, .if_icmp .ne 7, 3, 2), (117, .iconst 1, 1, 0), (118, .goto 4, 3, 2), (121, .iconst 0, 1, 0), (122, .istore 6, 2, 0), (124, .iload 4, 2, 0), (126, .iconst 2, 1, 0), (127, .if_icmp .eq 8, 3, 2)],
  [(130, .iload 5, 2, 0), (132, .ifCond .eq 18, 3, 2), (135, .iload 4, 2, 0), (137, .iconst 1, 1, 0), (138, .if_icmp .eq 8, 3, 2), (141, .iload 6, 2, 0), (143, .ifCond .eq 7, 3, 2)],
  [(146, .iconst 1, 1, 0), (147, .goto 4, 3, 2), (150, .iconst 0, 1, 0), (151, .ireturn, 1, 6)]]
theorem nn_d44 : ab_dtok prog_8_method_17_code nn_dt44 = true := dw_ok (by decide +kernel)
def nn_dt45 : ab_DT := [[(0, .aload_n 0, 1, 0), (1, .iload_n 1, 1, 0), (2, .invokevirtual 96, 3, 3), (5, .ifCond .eq 23, 3, 2), (8, .iload_n 2, 1, 0), (9, .ifCond .lt 19, 3, 2), (12, .iload_n 2, 1, 0), (13, .aload_n 0, 1, 0), (14, .getfield 18, 3, 1)],
  [(17, .iload_n 1, 1, 0), (18, .invokestatic 92, 3, 3), (21, .if_icmp .ge 7, 3, 2), (24, .iconst 1, 1, 0), (25, .goto 4, 3, 2), (28, .iconst 0, 1, 0), (29, .ireturn, 1, 6)]]
theorem nn_d45 : ab_dtok prog_8_method_10_code nn_dt45 = true := dw_ok (by decide +kernel)
def nn_dt46 : ab_DT := [[(0, .iload_n 1, 1, 0), (1, .ifCond .lt 15, 3, 2), (4, .iload_n 1, 1, 0), (5, .aload_n 0, 1, 0), (6, .getfield 54, 3, 1), (9, .if_icmp .ge 7, 3, 2), (12, .iconst 1, 1, 0), (13, .goto 4, 3, 2)],
  [(16, .iconst 0, 1, 0), (17, .ireturn, 1, 6)]]
theorem nn_d46 : ab_dtok prog_8_method_4_code nn_dt46 = true := dw_ok (by decide +kernel)
def nn_dt47 : ab_DT := [[(0, .aload_n 0, 1, 0), (1, .getfield 9, 3, 1), (4, .iload_n 1, 1, 0), (5, .bipush 9, 2, 0), (7, .imul, 1, 0), (8, .iload_n 2, 1, 0), (9, .iadd, 1, 0), (10, .invokestatic 92, 3, 3), (13, .ireturn, 1, 6)]]
theorem nn_d47 : ab_dtok prog_8_method_11_code nn_dt47 = true := dw_ok (by decide +kernel)
def nn_dt48 : ab_DT := [[(0, .aload_n 0, 1, 0), (1, .getfield 15, 3, 1), (4, .iload_n 1, 1, 0), (5, .bipush 9, 2, 0), (7, .imul, 1, 0), (8, .iload_n 2, 1, 0), (9, .iadd, 1, 0), (10, .invokestatic 92, 3, 3), (13, .ireturn, 1, 6)]]
theorem nn_d48 : ab_dtok prog_8_method_12_code nn_dt48 = true := dw_ok (by decide +kernel)
def nn_dt49 : ab_DT := [[(0, .aload_n 1, 1, 0), (1, .getfield 9, 3, 1), (4, .aload_n 0, 1, 0), (5, .getfield 9, 3, 1), (8, .invokestatic 70, 3, 3), (11, .aload_n 1, 1, 0), (12, .getfield 15, 3, 1), (15, .aload_n 0, 1, 0)],
  [(16, .getfield 15, 3, 1), (19, .invokestatic 70, 3, 3), (22, .aload_n 1, 1, 0), (23, .getfield 18, 3, 1), (26, .aload_n 0, 1, 0), (27, .getfield 18, 3, 1), (30, .invokestatic 70, 3, 3)],
  [(33, .aload_n 1, 1, 0), (34, .getfield 21, 3, 1), (37, .aload_n 0, 1, 0), (38, .getfield 21, 3, 1), (41, .invokestatic 70, 3, 3), (44, .aload_n 1, 1, 0), (45, .getfield 24, 3, 1)],
  [(48, .aload_n 0, 1, 0), (49, .getfield 24, 3, 1), (52, .invokestatic 70, 3, 3), (55, .aload_n 1, 1, 0), (56, .getfield 27, 3, 1), (59, .aload_n 0, 1, 0), (60, .getfield 27, 3, 1), (63, .invokestatic 70, 3, 3)],
  [(66, .aload_n 1, 1, 0), (67, .getfield 30, 3, 1), (70, .aload_n 0, 1, 0), (71, .getfield 30, 3, 1), (74, .invokestatic 70, 3, 3), (77, .aload_n 1, 1, 0), (78, .getfield 33, 3, 1)],
  [(81, .aload_n 0, 1, 0), (82, .getfield 33, 3, 1), (85, .invokestatic 74, 3, 3), (88, .aload_n 1, 1, 0), (89, .getfield 37, 3, 1), (92, .aload_n 0, 1, 0), (93, .getfield 37, 3, 1)],
  [(96, .invokestatic 74, 3, 3), (99, .aload_n 1, 1, 0), (100, .getfield 40, 3, 1), (103, .aload_n 0, 1, 0), (104, .getfield 40, 3, 1), (107, .invokestatic 74, 3, 3), (110, .aload_n 0, 1, 0), (111, .getfield 46, 3, 1)],
  [(114, .aload_n 1, 1, 0), (115, .getfield 46, 3, 1), (118, .invokevirtual 77, 3, 3), (121, .aload_n 0, 1, 0), (122, .aload_n 1, 1, 0), (123, .getfield 54, 3, 1), (126, .putfield 54, 3, 1)],
  [(129, .aload_n 0, 1, 0), (130, .aload_n 1, 1, 0), (131, .getfield 57, 3, 1), (134, .putfield 57, 3, 1), (137, .aload_n 0, 1, 0), (138, .aload_n 1, 1, 0), (139, .getfield 60, 3, 1), (142, .putfield 60, 3, 1)],
  [(145, .aload_n 0, 1, 0), (146, .aload_n 1, 1, 0), (147, .getfield 50, 3, 1), (150, .putfield 50, 3, 1), (153, .aload_n 0, 1, 0), (154, .aload_n 1, 1, 0), (155, .getfield 81, 3, 1), (158, .putfield 81, 3, 1)],
  [(161, .return_, 1, 6)]]
theorem nn_d49 : ab_dtok prog_8_method_3_code nn_dt49 = true := dw_ok (by decide +kernel)
def nn_dt50 : ab_DT := [[(0, .iconst 0, 1, 0), (1, .istore_n 2, 1, 0), (2, .iload_n 2, 1, 0), (3, .aload_n 0, 1, 0), (4, .arraylength, 1, 1), (5, .if_icmp .ge 21, 3, 2), (8, .iload_n 2, 1, 0), (9, .aload_n 1, 1, 0), (10, .arraylength, 1, 1), (11, .if_icmp .ge 15, 3, 2), (14, .aload_n 1, 1, 0), (15, .iload_n 2, 1, 0)],
  [(16, .aload_n 0, 1, 0), (17, .iload_n 2, 1, 0), (18, .iaload, 1, 1), (19, .iastore, 1, 1), (20, .iinc 2 1, 3, 0), (23, .goto (-21), 3, 2), (26, .return_, 1, 6)]]
theorem nn_d50 : ab_dtok prog_1_method_88_code nn_dt50 = true := dw_ok (by decide +kernel)
def nn_dt51 : ab_DT := [[(0, .iconst 0, 1, 0), (1, .istore_n 2, 1, 0), (2, .iload_n 2, 1, 0), (3, .aload_n 0, 1, 0), (4, .arraylength, 1, 1), (5, .if_icmp .ge 21, 3, 2), (8, .iload_n 2, 1, 0), (9, .aload_n 1, 1, 0), (10, .arraylength, 1, 1), (11, .if_icmp .ge 15, 3, 2), (14, .aload_n 1, 1, 0), (15, .iload_n 2, 1, 0)],
  [(16, .aload_n 0, 1, 0), (17, .iload_n 2, 1, 0), (18, .laload, 1, 1), (19, .lastore, 1, 1), (20, .iinc 2 1, 3, 0), (23, .goto (-21), 3, 2), (26, .return_, 1, 6)]]
theorem nn_d51 : ab_dtok prog_1_method_89_code nn_dt51 = true := dw_ok (by decide +kernel)
def nn_dt52 : ab_DT := [[(0, .aload_n 1, 1, 0), (1, .getfield 11, 3, 1), (4, .aload_n 0, 1, 0), (5, .getfield 11, 3, 1), (8, .invokestatic 28, 3, 3), (11, .aload_n 1, 1, 0), (12, .getfield 15, 3, 1), (15, .aload_n 0, 1, 0)],
  [(16, .getfield 15, 3, 1), (19, .invokestatic 28, 3, 3), (22, .aload_n 0, 1, 0), (23, .aload_n 1, 1, 0), (24, .getfield 21, 3, 1), (27, .putfield 21, 3, 1), (30, .aload_n 0, 1, 0), (31, .aload_n 1, 1, 0)],
  [(32, .getfield 25, 3, 1), (35, .putfield 25, 3, 1), (38, .return_, 1, 6)]]
theorem nn_d52 : ab_dtok prog_7_method_3_code nn_dt52 = true := dw_ok (by decide +kernel)
def nn_dt53 : ab_DT := [[(0, .aload_n 0, 1, 0), (1, .getfield 10, 3, 1), (4, .getfield 139, 3, 1), (7, .ireturn, 1, 6)]]
theorem nn_d53 : ab_dtok prog_1_method_5_code nn_dt53 = true := dw_ok (by decide +kernel)
def nn_dt54 : ab_DT := [[(0, .aload_n 0, 1, 0), (1, .getfield 19, 3, 1), (4, .iload_n 1, 1, 0), (5, .iload_n 2, 1, 0), (6, .invokevirtual 142, 3, 3), (9, .ifCond .eq 10, 3, 2), (12, .iload_n 3, 1, 0), (13, .invokestatic 146, 3, 3)],
  [(16, .ifCond .ne 5, 3, 2), (19, .iconst (-1), 1, 0), (20, .ireturn, 1, 6), (21, .iload_n 3, 1, 0), (22, .ifCond .ne 15, 3, 2), (25, .aload_n 0, 1, 0), (26, .getfield 19, 3, 1), (29, .iload_n 1, 1, 0), (30, .iload_n 2, 1, 0), (31, .invokevirtual 150, 3, 3)],
  [(34, .goto 12, 3, 2), (37, .aload_n 0, 1, 0), (38, .getfield 19, 3, 1), (41, .iload_n 1, 1, 0), (42, .iload_n 2, 1, 0), (43, .invokevirtual 154, 3, 3), (46, .ireturn, 1, 6)]]
theorem nn_d54 : ab_dtok prog_1_method_6_code nn_dt54 = true := dw_ok (by decide +kernel)
def nn_dt55 : ab_DT := [[(0, .iload_n 0, 1, 0), (1, .ifCond .eq 8, 3, 2), (4, .iload_n 0, 1, 0), (5, .iconst 1, 1, 0), (6, .if_icmp .ne 7, 3, 2), (9, .iconst 1, 1, 0), (10, .goto 4, 3, 2), (13, .iconst 0, 1, 0), (14, .ireturn, 1, 6)]]
theorem nn_d55 : ab_dtok prog_1_method_77_code nn_dt55 = true := dw_ok (by decide +kernel)
def nn_dt56 : ab_DT := [[(0, .aload_n 0, 1, 0), (1, .getfield 19, 3, 1), (4, .iload_n 1, 1, 0), (5, .invokevirtual 157, 3, 3), (8, .ifCond .eq 22, 3, 2), (11, .iload_n 2, 1, 0), (12, .invokestatic 160, 3, 3), (15, .ifCond .eq 15, 3, 2)],
  [(18, .aload_n 0, 1, 0), (19, .getfield 19, 3, 1), (22, .iload_n 1, 1, 0), (23, .iload_n 2, 1, 0), (24, .invokevirtual 163, 3, 3), (27, .goto 4, 3, 2), (30, .iconst (-1), 1, 0), (31, .ireturn, 1, 6)]]
theorem nn_d56 : ab_dtok prog_1_method_7_code nn_dt56 = true := dw_ok (by decide +kernel)
def nn_dt57 : ab_DT := [[(0, .iload_n 0, 1, 0), (1, .ifCond .lt 12, 3, 2), (4, .iload_n 0, 1, 0), (5, .iconst 4, 1, 0), (6, .if_icmp .ge 7, 3, 2), (9, .iconst 1, 1, 0), (10, .goto 4, 3, 2), (13, .iconst 0, 1, 0), (14, .ireturn, 1, 6)]]
theorem nn_d57 : ab_dtok prog_1_method_74_code nn_dt57 = true := dw_ok (by decide +kernel)
def nn_dt58 : ab_DT := [[(0, .aload_n 0, 1, 0), (1, .getfield 18, 3, 1), (4, .iload_n 1, 1, 0), (5, .invokestatic 92, 3, 3), (8, .istore_n 3, 1, 0), (9, .iconst 0, 1, 0), (10, .istore 4, 2, 0), (12, .bipush 24, 2, 0), (14, .istore 5, 2, 0)],
  [(16, .iconst 0, 1, 0), (17, .istore 6, 2, 0), (19, .iconst 0, 1, 0), (20, .istore 7, 2, 0), (22, .iload 7, 2, 0), (24, .iload_n 3, 1, 0), (25, .if_icmp .ge 49, 3, 2), (28, .iload 4, 2, 0), (30, .aload_n 0, 1, 0), (31, .iload_n 1, 1, 0)],
  [(32, .iload 7, 2, 0), (34, .invokevirtual 103, 3, 3), (37, .invokestatic 107, 3, 3), (40, .istore 4, 2, 0), (42, .iload 5, 2, 0), (44, .aload_n 0, 1, 0), (45, .iload_n 1, 1, 0), (46, .iload 7, 2, 0)],
  [(48, .invokevirtual 103, 3, 3), (51, .invokestatic 112, 3, 3), (54, .istore 5, 2, 0), (56, .iload 6, 2, 0), (58, .aload_n 0, 1, 0), (59, .iload_n 1, 1, 0), (60, .iload 7, 2, 0), (62, .invokevirtual 115, 3, 3)],
  [(65, .iadd, 1, 0), (66, .istore 6, 2, 0), (68, .iinc 7 1, 3, 0), (71, .goto (-49), 3, 2), (74, .iload_n 2, 1, 0), (75, .ifCond .ne 5, 3, 2), (78, .iload_n 3, 1, 0), (79, .ireturn, 1, 6)],
  [(80, .iload_n 2, 1, 0), (81, .iconst 1, 1, 0), (82, .if_icmp .ne 6, 3, 2), (85, .iload 4, 2, 0), (87, .ireturn, 1, 6), (88, .iload_n 2, 1, 0), (89, .iconst 2, 1, 0), (90, .if_icmp .ne 8, 3, 2), (93, .iload 5, 2, 0), (95, .goto 5, 3, 2)],
  [(98, .iload 6, 2, 0), (100, .ireturn, 1, 6)]]
theorem nn_d58 : ab_dtok prog_8_method_15_code nn_dt58 = true := dw_ok (by decide +kernel)
def nn_dt59 : ab_DT := [[(0, .iload_n 0, 1, 0), (1, .iload_n 1, 1, 0), (2, .if_icmp .lt 7, 3, 2), (5, .iload_n 0, 1, 0), (6, .goto 4, 3, 2), (9, .iload_n 1, 1, 0), (10, .ireturn, 1, 6)]]
theorem nn_d59 : ab_dtok prog_21_method_65_code nn_dt59 = true := dw_ok (by decide +kernel)
def nn_dt60 : ab_DT := [[(0, .iload_n 0, 1, 0), (1, .iload_n 1, 1, 0), (2, .if_icmp .gt 7, 3, 2), (5, .iload_n 0, 1, 0), (6, .goto 4, 3, 2), (9, .iload_n 1, 1, 0), (10, .ireturn, 1, 6)]]
theorem nn_d60 : ab_dtok prog_21_method_69_code nn_dt60 = true := dw_ok (by decide +kernel)
def nn_dt61 : ab_DT := [[(0, .aload_n 0, 1, 0), (1, .getfield 19, 3, 1), (4, .iload_n 1, 1, 0), (5, .iload_n 2, 1, 0), (6, .invokevirtual 142, 3, 3), (9, .ifCond .ne 5, 3, 2), (12, .iconst (-1), 1, 0), (13, .ireturn, 1, 6), (14, .iconst 0, 1, 0), (15, .istore_n 3, 1, 0)],
  [(16, .iconst 0, 1, 0), (17, .istore 4, 2, 0), (19, .iload 4, 2, 0), (21, .iload_n 2, 1, 0), (22, .if_icmp .ge 22, 3, 2), (25, .iload_n 3, 1, 0), (26, .aload_n 0, 1, 0), (27, .getfield 19, 3, 1), (30, .iload_n 1, 1, 0), (31, .iload 4, 2, 0)],
  [(33, .invokevirtual 154, 3, 3), (36, .iadd, 1, 0), (37, .istore_n 3, 1, 0), (38, .iinc 4 1, 3, 0), (41, .goto (-22), 3, 2), (44, .iload_n 3, 1, 0), (45, .ireturn, 1, 6)]]
theorem nn_d61 : ab_dtok prog_1_method_8_code nn_dt61 = true := dw_ok (by decide +kernel)
def nn_dt62 : ab_DT := [[(0, .aload_n 0, 1, 0), (1, .getfield 19, 3, 1), (4, .iload_n 1, 1, 0), (5, .invokevirtual 166, 3, 3), (8, .ifCond .eq 14, 3, 2), (11, .aload_n 0, 1, 0), (12, .getfield 19, 3, 1), (15, .iload_n 1, 1, 0)],
  [(16, .invokevirtual 169, 3, 3), (19, .goto 4, 3, 2), (22, .iconst (-1), 1, 0), (23, .ireturn, 1, 6)]]
theorem nn_d62 : ab_dtok prog_1_method_9_code nn_dt62 = true := dw_ok (by decide +kernel)
def nn_dt63 : ab_DT := [[(0, .iload_n 1, 1, 0), (1, .ifCond .lt 15, 3, 2), (4, .iload_n 1, 1, 0), (5, .aload_n 0, 1, 0), (6, .getfield 57, 3, 1), (9, .if_icmp .ge 7, 3, 2), (12, .iconst 1, 1, 0), (13, .goto 4, 3, 2)],
  [(16, .iconst 0, 1, 0), (17, .ireturn, 1, 6)]]
theorem nn_d63 : ab_dtok prog_8_method_5_code nn_dt63 = true := dw_ok (by decide +kernel)
def nn_dt64 : ab_DT := [[(0, .iload_n 1, 1, 0), (1, .iconst (-1), 1, 0), (2, .if_icmp .ne 10, 3, 2), (5, .aload_n 0, 1, 0), (6, .invokevirtual 88, 3, 3), (9, .goto 11, 3, 2), (12, .aload_n 0, 1, 0), (13, .getfield 24, 3, 1)],
  [(16, .iload_n 1, 1, 0), (17, .invokestatic 92, 3, 3), (20, .ireturn, 1, 6)]]
theorem nn_d64 : ab_dtok prog_8_method_8_code nn_dt64 = true := dw_ok (by decide +kernel)
def nn_dt65 : ab_DT := [[(0, .iconst 1, 1, 0), (1, .aload_n 0, 1, 0), (2, .getfield 54, 3, 1), (5, .ishl, 1, 0), (6, .iconst 1, 1, 0), (7, .isub, 1, 0), (8, .ireturn, 1, 6)]]
theorem nn_d65 : ab_dtok prog_8_method_9_code nn_dt65 = true := dw_ok (by decide +kernel)
def nn_dt66 : ab_DT := [[(0, .aload_n 0, 1, 0), (1, .getfield 19, 3, 1), (4, .iload_n 1, 1, 0), (5, .invokevirtual 173, 3, 3), (8, .ifCond .eq 26, 3, 2), (11, .aload_n 0, 1, 0), (12, .getfield 19, 3, 1), (15, .iload_n 2, 1, 0)],
  [(16, .invokevirtual 157, 3, 3), (19, .ifCond .eq 15, 3, 2), (22, .aload_n 0, 1, 0), (23, .getfield 19, 3, 1), (26, .iload_n 1, 1, 0), (27, .iload_n 2, 1, 0), (28, .invokevirtual 176, 3, 3), (31, .goto 4, 3, 2)],
  [(34, .iconst (-1), 1, 0), (35, .ireturn, 1, 6)]]
theorem nn_d66 : ab_dtok prog_1_method_10_code nn_dt66 = true := dw_ok (by decide +kernel)
def nn_dt67 : ab_DT := [[(0, .iload_n 1, 1, 0), (1, .ifCond .lt 15, 3, 2), (4, .iload_n 1, 1, 0), (5, .aload_n 0, 1, 0), (6, .getfield 60, 3, 1), (9, .if_icmp .ge 7, 3, 2), (12, .iconst 1, 1, 0), (13, .goto 4, 3, 2)],
  [(16, .iconst 0, 1, 0), (17, .ireturn, 1, 6)]]
theorem nn_d67 : ab_dtok prog_8_method_6_code nn_dt67 = true := dw_ok (by decide +kernel)
def nn_dt68 : ab_DT := [[(0, .aload_n 0, 1, 0), (1, .getfield 27, 3, 1), (4, .iload_n 1, 1, 0), (5, .bipush 9, 2, 0), (7, .imul, 1, 0), (8, .iload_n 2, 1, 0), (9, .iadd, 1, 0), (10, .invokestatic 92, 3, 3), (13, .ireturn, 1, 6)]]
theorem nn_d68 : ab_dtok prog_8_method_13_code nn_dt68 = true := dw_ok (by decide +kernel)
def nn_dt69 : ab_DT := [[(0, .aload_n 0, 1, 0), (1, .getfield 19, 3, 1), (4, .iload_n 1, 1, 0), (5, .invokevirtual 173, 3, 3), (8, .ifCond .eq 17, 3, 2), (11, .aload_n 0, 1, 0), (12, .getfield 19, 3, 1), (15, .getfield 179, 3, 1)],
  [(18, .iload_n 1, 1, 0), (19, .invokestatic 180, 3, 3), (22, .goto 4, 3, 2), (25, .iconst (-1), 1, 0), (26, .ireturn, 1, 6)]]
theorem nn_d69 : ab_dtok prog_1_method_11_code nn_dt69 = true := dw_ok (by decide +kernel)
def nn_dt70 : ab_DT := [[(0, .aload_n 0, 1, 0), (1, .getfield 19, 3, 1), (4, .iload_n 1, 1, 0), (5, .invokevirtual 157, 3, 3), (8, .ifCond .eq 29, 3, 2), (11, .iload_n 2, 1, 0), (12, .invokestatic 184, 3, 3), (15, .ifCond .eq 22, 3, 2)],
  [(18, .iload_n 3, 1, 0), (19, .invokestatic 187, 3, 3), (22, .ifCond .eq 15, 3, 2), (25, .aload_n 0, 1, 0), (26, .getfield 19, 3, 1), (29, .iload 4, 2, 0), (31, .invokevirtual 190, 3, 3)],
  [(34, .ifCond .ne 5, 3, 2), (37, .iconst (-1), 1, 0), (38, .ireturn, 1, 6), (39, .aload_n 0, 1, 0), (40, .getfield 19, 3, 1), (43, .iload_n 1, 1, 0), (44, .iload_n 2, 1, 0), (45, .iload_n 3, 1, 0), (46, .aload_n 0, 1, 0), (47, .getfield 19, 3, 1)],
  [(50, .iload 4, 2, 0), (52, .invokevirtual 169, 3, 3), (55, .invokevirtual 193, 3, 3), (58, .ireturn, 1, 6)]]
theorem nn_d70 : ab_dtok prog_1_method_12_code nn_dt70 = true := dw_ok (by decide +kernel)
def nn_dt71 : ab_DT := [[(0, .iload_n 0, 1, 0), (1, .iconst 1, 1, 0), (2, .if_icmp .lt 13, 3, 2), (5, .iload_n 0, 1, 0), (6, .bipush 9, 2, 0), (8, .if_icmp .gt 7, 3, 2), (11, .iconst 1, 1, 0), (12, .goto 4, 3, 2), (15, .iconst 0, 1, 0)],
  [(16, .ireturn, 1, 6)]]
theorem nn_d71 : ab_dtok prog_1_method_72_code nn_dt71 = true := dw_ok (by decide +kernel)
def nn_dt72 : ab_DT := [[(0, .iload_n 0, 1, 0), (1, .ifCond .lt 12, 3, 2), (4, .iload_n 0, 1, 0), (5, .iconst 4, 1, 0), (6, .if_icmp .ge 7, 3, 2), (9, .iconst 1, 1, 0), (10, .goto 4, 3, 2), (13, .iconst 0, 1, 0), (14, .ireturn, 1, 6)]]
theorem nn_d72 : ab_dtok prog_1_method_73_code nn_dt72 = true := dw_ok (by decide +kernel)
def nn_dt73 : ab_DT := [[(0, .iload_n 1, 1, 0), (1, .iconst (-1), 1, 0), (2, .if_icmp .eq 11, 3, 2), (5, .aload_n 0, 1, 0), (6, .iload_n 1, 1, 0), (7, .invokevirtual 84, 3, 3), (10, .ifCond .eq 7, 3, 2), (13, .iconst 1, 1, 0), (14, .goto 4, 3, 2)],
  [(17, .iconst 0, 1, 0), (18, .ireturn, 1, 6)]]
theorem nn_d73 : ab_dtok prog_8_method_7_code nn_dt73 = true := dw_ok (by decide +kernel)
def nn_dt74 : ab_DT := [[(0, .iconst 0, 1, 0), (1, .istore 5, 2, 0), (3, .iconst 0, 1, 0), (4, .istore 6, 2, 0), (6, .iload 6, 2, 0), (8, .aload_n 0, 1, 0), (9, .getfield 54, 3, 1), (12, .if_icmp .ge 40, 3, 2), (15, .iload 4, 2, 0)],
  [(17, .iload 6, 2, 0), (19, .invokestatic 133, 3, 3), (22, .ifCond .eq 24, 3, 2), (25, .aload_n 0, 1, 0), (26, .iload_n 1, 1, 0), (27, .iload 6, 2, 0), (29, .iload_n 3, 1, 0), (30, .invokevirtual 136, 3, 3)],
  [(33, .iload_n 2, 1, 0), (34, .if_icmp .lt 12, 3, 2), (37, .iload 5, 2, 0), (39, .iconst 1, 1, 0), (40, .iload 6, 2, 0), (42, .ishl, 1, 0), (43, .ior, 1, 0), (44, .istore 5, 2, 0), (46, .iinc 6 1, 3, 0)],
  [(49, .goto (-43), 3, 2), (52, .iload 5, 2, 0), (54, .ireturn, 1, 6)]]
theorem nn_d74 : ab_dtok prog_8_method_23_code nn_dt74 = true := dw_ok (by decide +kernel)
def nn_dt75 : ab_DT := [[(0, .aload_n 0, 1, 0), (1, .getfield 21, 3, 1), (4, .iload_n 1, 1, 0), (5, .iload_n 2, 1, 0), (6, .iload_n 3, 1, 0), (7, .invokestatic 122, 3, 3), (10, .invokestatic 92, 3, 3), (13, .ireturn, 1, 6)]]
theorem nn_d75 : ab_dtok prog_8_method_22_code nn_dt75 = true := dw_ok (by decide +kernel)
def nn_dt76 : ab_DT := [[(0, .iload_n 1, 1, 0), (1, .invokestatic 184, 3, 3), (4, .ifCond .eq 21, 3, 2), (7, .iload_n 2, 1, 0), (8, .invokestatic 187, 3, 3), (11, .ifCond .eq 14, 3, 2), (14, .aload_n 0, 1, 0), (15, .getfield 19, 3, 1)],
  [(18, .iload_n 3, 1, 0), (19, .invokevirtual 190, 3, 3), (22, .ifCond .ne 5, 3, 2), (25, .iconst (-1), 1, 0), (26, .ireturn, 1, 6), (27, .aload_n 0, 1, 0), (28, .getfield 19, 3, 1), (31, .iload_n 3, 1, 0)],
  [(32, .invokevirtual 169, 3, 3), (35, .istore 4, 2, 0), (37, .iconst 0, 1, 0), (38, .istore 5, 2, 0), (40, .iconst 0, 1, 0), (41, .istore 6, 2, 0), (43, .iload 6, 2, 0), (45, .bipush 9, 2, 0), (47, .if_icmp .ge 43, 3, 2)],
  [(50, .iload 4, 2, 0), (52, .iload 6, 2, 0), (54, .invokestatic 197, 3, 3), (57, .ifCond .eq 27, 3, 2), (60, .aload_n 0, 1, 0), (61, .getfield 19, 3, 1)],
  [(64, .iload 6, 2, 0), (66, .iload_n 1, 1, 0), (67, .iload_n 2, 1, 0), (68, .iload 4, 2, 0), (70, .invokevirtual 193, 3, 3), (73, .iload 6, 2, 0), (75, .invokestatic 200, 3, 3), (78, .ifCond .eq 6, 3, 2)],
  [(81, .iinc 5 1, 3, 0), (84, .iinc 6 1, 3, 0), (87, .goto (-44), 3, 2), (90, .iload 5, 2, 0), (92, .ireturn, 1, 6)]]
theorem nn_d76 : ab_dtok prog_1_method_13_code nn_dt76 = true := dw_ok (by decide +kernel)
def nn_dt77 : ab_DT := [[(0, .iload_n 0, 1, 0), (1, .iload_n 0, 1, 0), (2, .ineg, 1, 0), (3, .iand, 1, 0), (4, .iconst 1, 1, 0), (5, .iload_n 1, 1, 0), (6, .ishl, 1, 0), (7, .if_icmp .ne 7, 3, 2), (10, .iconst 1, 1, 0), (11, .goto 4, 3, 2), (14, .iconst 0, 1, 0), (15, .ireturn, 1, 6)]]
theorem nn_d77 : ab_dtok prog_1_method_81_code nn_dt77 = true := dw_ok (by decide +kernel)
def nn_dt78 : ab_DT := [[(0, .aload_n 0, 1, 0), (1, .getfield 19, 3, 1), (4, .iload_n 1, 1, 0), (5, .invokevirtual 157, 3, 3), (8, .ifCond .eq 36, 3, 2), (11, .iload_n 2, 1, 0), (12, .invokestatic 187, 3, 3), (15, .ifCond .eq 29, 3, 2)],
  [(18, .aload_n 0, 1, 0), (19, .getfield 19, 3, 1), (22, .iload_n 3, 1, 0), (23, .invokevirtual 190, 3, 3), (26, .ifCond .eq 18, 3, 2), (29, .aload_n 0, 1, 0), (30, .getfield 19, 3, 1)],
  [(33, .iload_n 3, 1, 0), (34, .invokevirtual 169, 3, 3), (37, .iload_n 1, 1, 0), (38, .invokestatic 197, 3, 3), (41, .ifCond .ne 5, 3, 2), (44, .iconst (-1), 1, 0), (45, .ireturn, 1, 6), (46, .aload_n 0, 1, 0), (47, .getfield 19, 3, 1)],
  [(50, .iload_n 1, 1, 0), (51, .iload_n 2, 1, 0), (52, .aload_n 0, 1, 0), (53, .getfield 19, 3, 1), (56, .iload_n 3, 1, 0), (57, .invokevirtual 169, 3, 3), (60, .invokevirtual 203, 3, 3), (63, .ireturn, 1, 6)]]
theorem nn_d78 : ab_dtok prog_1_method_14_code nn_dt78 = true := dw_ok (by decide +kernel)
def nn_dt79 : ab_DT := [[(0, .iconst 1, 1, 0), (1, .istore 4, 2, 0), (3, .iload 4, 2, 0), (5, .bipush 9, 2, 0), (7, .if_icmp .gt 27, 3, 2), (10, .aload_n 0, 1, 0), (11, .iload_n 1, 1, 0), (12, .iload 4, 2, 0), (14, .iload_n 2, 1, 0), (15, .iload_n 3, 1, 0)],
  [(16, .invokevirtual 139, 3, 3), (19, .iconst 1, 1, 0), (20, .iload_n 1, 1, 0), (21, .ishl, 1, 0), (22, .if_icmp .ne 6, 3, 2), (25, .iload 4, 2, 0), (27, .ireturn, 1, 6), (28, .iinc 4 1, 3, 0), (31, .goto (-28), 3, 2)],
  [(34, .iconst (-1), 1, 0), (35, .ireturn, 1, 6)]]
theorem nn_d79 : ab_dtok prog_8_method_24_code nn_dt79 = true := dw_ok (by decide +kernel)
def nn_DT_40 : List ab_DT := [nn_dt40, nn_dt41, nn_dt42, nn_dt43, nn_dt44, nn_dt45, nn_dt46, nn_dt47, nn_dt48, nn_dt49, nn_dt50, nn_dt51, nn_dt52, nn_dt53, nn_dt54, nn_dt55, nn_dt56, nn_dt57, nn_dt58, nn_dt59, nn_dt60, nn_dt61, nn_dt62, nn_dt63, nn_dt64, nn_dt65, nn_dt66, nn_dt67, nn_dt68, nn_dt69, nn_dt70, nn_dt71, nn_dt72, nn_dt73, nn_dt74, nn_dt75, nn_dt76, nn_dt77, nn_dt78, nn_dt79]
theorem nn_DT_40_ok : ab_dtP nn_MT_40 nn_DT_40 := ⟨nn_d40, nn_d41, nn_d42, nn_d43, nn_d44, nn_d45, nn_d46, nn_d47, nn_d48, nn_d49, nn_d50, nn_d51, nn_d52, nn_d53, nn_d54, nn_d55, nn_d56, nn_d57, nn_d58, nn_d59, nn_d60, nn_d61, nn_d62, nn_d63, nn_d64, nn_d65, nn_d66, nn_d67, nn_d68, nn_d69, nn_d70, nn_d71, nn_d72, nn_d73, nn_d74, nn_d75, nn_d76, nn_d77, nn_d78, nn_d79, trivial⟩
