section
def nn_dt0 : ab_DT := [[(0, .aload_n 0, 1, 0), (1, .getfield 10, 3, 1), (4, .invokevirtual 108, 3, 3), (7, .ifCond .ne 5, 3, 2), (10, .iconst (-1), 1, 0), (11, .ireturn, 1, 6), (12, .aload_n 0, 1, 0), (13, .getfield 10, 3, 1)],
  [(16, .iload_n 1, 1, 0), (17, .invokevirtual 112, 3, 3), (20, .aload_n 0, 1, 0), (21, .getfield 10, 3, 1), (24, .iload_n 2, 1, 0), (25, .invokevirtual 112, 3, 3), (28, .aload_n 0, 1, 0), (29, .getfield 10, 3, 1)],
  [(32, .iload_n 3, 1, 0), (33, .invokevirtual 112, 3, 3), (36, .aload_n 0, 1, 0), (37, .getfield 10, 3, 1), (40, .iload 4, 2, 0), (42, .invokevirtual 112, 3, 3), (45, .aload_n 0, 1, 0), (46, .getfield 10, 3, 1)],
  [(49, .iload 5, 2, 0), (51, .invokevirtual 112, 3, 3), (54, .aload_n 0, 1, 0), (55, .getfield 10, 3, 1), (58, .getfield 116, 3, 1), (61, .ireturn, 1, 6)]]
theorem nn_d0 : ab_dtok prog_1_method_2_code nn_dt0 = true := dw_ok (by decide +kernel)
def nn_dt1 : ab_DT := [[(0, .aload_n 0, 1, 0), (1, .getfield 15, 3, 1), (4, .bipush 20, 2, 0), (6, .iadd, 1, 0), (7, .sipush 940, 3, 0), (10, .if_icmp .gt 7, 3, 2), (13, .iconst 1, 1, 0), (14, .goto 4, 3, 2)],
  [(17, .iconst 0, 1, 0), (18, .ireturn, 1, 6)]]
theorem nn_d1 : ab_dtok prog_10_method_2_code nn_dt1 = true := dw_ok (by decide +kernel)
def nn_dt2 : ab_DT := [[(0, .bipush 24, 2, 0), (2, .istore_n 2, 1, 0), (3, .iload_n 2, 1, 0), (4, .ifCond .lt 51, 3, 2), (7, .aload_n 0, 1, 0), (8, .getfield 15, 3, 1), (11, .ifCond .lt 38, 3, 2), (14, .aload_n 0, 1, 0), (15, .getfield 15, 3, 1)],
  [(18, .aload_n 0, 1, 0), (19, .getfield 11, 3, 1), (22, .arraylength, 1, 1), (23, .if_icmp .ge 26, 3, 2), (26, .aload_n 0, 1, 0), (27, .getfield 11, 3, 1), (30, .aload_n 0, 1, 0), (31, .getfield 15, 3, 1)],
  [(34, .iload_n 1, 1, 0), (35, .iload_n 2, 1, 0), (36, .ishr, 1, 0), (37, .i2b, 1, 0), (38, .bastore, 1, 1), (39, .aload_n 0, 1, 0), (40, .dup, 1, 0), (41, .getfield 15, 3, 1), (44, .iconst 1, 1, 0), (45, .iadd, 1, 0), (46, .putfield 15, 3, 1)],
  [(49, .iinc 2 (-8), 3, 0), (52, .goto (-49), 3, 2), (55, .return_, 1, 6)]]
theorem nn_d2 : ab_dtok prog_10_method_3_code nn_dt2 = true := dw_ok (by decide +kernel)
def nn_dt3 : ab_DT := [[(0, .iload_n 1, 1, 0), (1, .ifCond .lt 14, 3, 2), (4, .iload_n 1, 1, 0), (5, .aload_n 0, 1, 0), (6, .getfield 10, 3, 1), (9, .getfield 116, 3, 1), (12, .if_icmp .le 5, 3, 2), (15, .iconst 0, 1, 0)],
  [(16, .ireturn, 1, 6), (17, .aload_n 0, 1, 0), (18, .getfield 10, 3, 1), (21, .iload_n 1, 1, 0), (22, .putfield 116, 3, 1), (25, .iconst 1, 1, 0), (26, .ireturn, 1, 6)]]
theorem nn_d3 : ab_dtok prog_1_method_3_code nn_dt3 = true := dw_ok (by decide +kernel)
def nn_dt4 : ab_DT := [[(0, .aload_n 0, 1, 0), (1, .getfield 34, 3, 1), (4, .invokevirtual 119, 3, 3), (7, .istore_n 1, 1, 0), (8, .aload_n 0, 1, 0), (9, .getfield 10, 3, 1), (12, .iconst 0, 1, 0), (13, .putfield 116, 3, 1)],
  [(16, .iload_n 1, 1, 0), (17, .ifCond .ne 13, 3, 2), (20, .iconst (-1), 1, 0), (21, .aload_n 0, 1, 0), (22, .getfield 10, 3, 1), (25, .getfield 122, 3, 1), (28, .isub, 1, 0), (29, .ireturn, 1, 6), (30, .aload_n 0, 1, 0), (31, .dup, 1, 0)],
  [(32, .getfield 104, 3, 1), (35, .iconst 1, 1, 0), (36, .iadd, 1, 0), (37, .putfield 104, 3, 1), (40, .aload_n 0, 1, 0), (41, .getfield 19, 3, 1), (44, .aload_n 0, 1, 0), (45, .getfield 34, 3, 1)],
  [(48, .getfield 125, 3, 1), (51, .invokevirtual 128, 3, 3), (54, .aload_n 0, 1, 0), (55, .getfield 19, 3, 1), (58, .aload_n 0, 1, 0), (59, .getfield 104, 3, 1), (62, .putfield 132, 3, 1)],
  [(65, .aload_n 0, 1, 0), (66, .getfield 76, 3, 1), (69, .iconst 0, 1, 0), (70, .putfield 135, 3, 1), (73, .aload_n 0, 1, 0), (74, .getfield 34, 3, 1), (77, .getfield 136, 3, 1)],
  [(80, .ireturn, 1, 6)]]
theorem nn_d4 : ab_dtok prog_1_method_4_code nn_dt4 = true := dw_ok (by decide +kernel)
def nn_dt5 : ab_DT := [[(0, .aload_n 0, 1, 0), (1, .getfield 12, 3, 1), (4, .invokevirtual 26, 3, 3), (7, .aload_n 0, 1, 0), (8, .getfield 18, 3, 1), (11, .iconst 0, 1, 0), (12, .invokestatic 29, 3, 3), (15, .aload_n 0, 1, 0)],
  [(16, .iconst 0, 1, 0), (17, .putfield 33, 3, 1), (20, .aload_n 0, 1, 0), (21, .iconst 0, 1, 0), (22, .putfield 37, 3, 1), (25, .aload_n 0, 1, 0), (26, .iconst 0, 1, 0), (27, .putfield 41, 3, 1), (30, .aload_n 0, 1, 0), (31, .getfield 22, 3, 1)],
  [(34, .sipush 900, 3, 0), (37, .invokevirtual 44, 3, 3), (40, .iconst 0, 1, 0), (41, .istore_n 1, 1, 0), (42, .iload_n 1, 1, 0), (43, .sipush 900, 3, 0), (46, .if_icmp .ge 50, 3, 2)],
  [(49, .aload_n 0, 1, 0), (50, .getfield 22, 3, 1), (53, .getfield 50, 3, 1), (56, .ifCond .eq 40, 3, 2), (59, .aload_n 0, 1, 0), (60, .invokevirtual 53, 3, 3), (63, .ifCond .eq 15, 3, 2)],
  [(66, .aload_n 0, 1, 0), (67, .getfield 22, 3, 1), (70, .bipush 59, 2, 0), (72, .invokevirtual 57, 3, 3), (75, .ifCond .ne 5, 3, 2), (78, .iconst 0, 1, 0), (79, .ireturn, 1, 6)],
  [(80, .aload_n 0, 1, 0), (81, .dup, 1, 0), (82, .getfield 41, 3, 1), (85, .iconst 1, 1, 0), (86, .iadd, 1, 0), (87, .putfield 41, 3, 1), (90, .iinc 1 1, 3, 0), (93, .goto (-51), 3, 2)],
  [(96, .aload_n 0, 1, 0), (97, .getfield 12, 3, 1), (100, .invokevirtual 61, 3, 3), (103, .iconst 1, 1, 0), (104, .ireturn, 1, 6)]]
theorem nn_d5 : ab_dtok prog_9_method_2_code nn_dt5 = true := dw_ok (by decide +kernel)
def nn_dt6 : ab_DT := [[(0, .aload_n 0, 1, 0), (1, .iconst 0, 1, 0), (2, .putfield 54, 3, 1), (5, .aload_n 0, 1, 0), (6, .iconst 0, 1, 0), (7, .putfield 57, 3, 1), (10, .aload_n 0, 1, 0), (11, .iconst 0, 1, 0), (12, .putfield 60, 3, 1), (15, .aload_n 0, 1, 0)],
  [(16, .bipush 9, 2, 0), (18, .putfield 50, 3, 1), (21, .aload_n 0, 1, 0), (22, .getfield 27, 3, 1), (25, .iconst 0, 1, 0), (26, .invokestatic 63, 3, 3), (29, .aload_n 0, 1, 0), (30, .getfield 30, 3, 1)],
  [(33, .iconst 5, 1, 0), (34, .invokestatic 63, 3, 3), (37, .aload_n 0, 1, 0), (38, .getfield 46, 3, 1), (41, .invokevirtual 67, 3, 3), (44, .return_, 1, 6)]]
theorem nn_d6 : ab_dtok prog_8_method_2_code nn_dt6 = true := dw_ok (by decide +kernel)
def nn_dt7 : ab_DT := [[(0, .iconst 0, 1, 0), (1, .istore_n 2, 1, 0), (2, .iload_n 2, 1, 0), (3, .aload_n 0, 1, 0), (4, .arraylength, 1, 1), (5, .if_icmp .ge 13, 3, 2), (8, .aload_n 0, 1, 0), (9, .iload_n 2, 1, 0), (10, .iload_n 1, 1, 0), (11, .iastore, 1, 1), (12, .iinc 2 1, 3, 0), (15, .goto (-13), 3, 2)],
  [(18, .return_, 1, 6)]]
theorem nn_d7 : ab_dtok prog_1_method_90_code nn_dt7 = true := dw_ok (by decide +kernel)
def nn_dt8 : ab_DT := [[(0, .aload_n 0, 1, 0), (1, .iconst 0, 1, 0), (2, .putfield 21, 3, 1), (5, .aload_n 0, 1, 0), (6, .iconst 0, 1, 0), (7, .putfield 25, 3, 1), (10, .return_, 1, 6)]]
theorem nn_d8 : ab_dtok prog_7_method_2_code nn_dt8 = true := dw_ok (by decide +kernel)
def nn_dt9 : ab_DT := [[(0, .aload_n 0, 1, 0), (1, .iload_n 1, 1, 0), (2, .putfield 19, 3, 1), (5, .aload_n 0, 1, 0), (6, .iconst 0, 1, 0), (7, .putfield 22, 3, 1), (10, .aload_n 0, 1, 0), (11, .iconst 0, 1, 0), (12, .putfield 25, 3, 1), (15, .aload_n 0, 1, 0)],
  [(16, .iconst 0, 1, 0), (17, .putfield 28, 3, 1), (20, .aload_n 0, 1, 0), (21, .invokevirtual 31, 3, 3), (24, .return_, 1, 6)]]
theorem nn_d9 : ab_dtok prog_10_method_4_code nn_dt9 = true := dw_ok (by decide +kernel)
def nn_dt10 : ab_DT := [[(0, .aload_n 0, 1, 0), (1, .getfield 22, 3, 1), (4, .aload_n 0, 1, 0), (5, .getfield 15, 3, 1), (8, .if_icmp .ge 30, 3, 2), (11, .aload_n 0, 1, 0), (12, .aload_n 0, 1, 0), (13, .getfield 22, 3, 1)],
  [(16, .invokevirtual 34, 3, 3), (19, .invokestatic 38, 3, 3), (22, .ifCond .eq 16, 3, 2), (25, .aload_n 0, 1, 0), (26, .dup, 1, 0), (27, .getfield 22, 3, 1), (30, .iconst 1, 1, 0), (31, .iadd, 1, 0)],
  [(32, .putfield 22, 3, 1), (35, .goto (-35), 3, 2), (38, .aload_n 0, 1, 0), (39, .aconst_null, 1, 0), (40, .putfield 42, 3, 1), (43, .aload_n 0, 1, 0), (44, .getfield 15, 3, 1), (47, .aload_n 0, 1, 0)],
  [(48, .getfield 19, 3, 1), (51, .if_icmp .le 28, 3, 2), (54, .aload_n 0, 1, 0), (55, .getfield 22, 3, 1), (58, .aload_n 0, 1, 0), (59, .getfield 19, 3, 1), (62, .if_icmp .lt 17, 3, 2)],
  [(65, .aload_n 0, 1, 0), (66, .aload_n 0, 1, 0), (67, .getfield 19, 3, 1), (70, .putfield 46, 3, 1), (73, .aload_n 0, 1, 0), (74, .iconst 1, 1, 0), (75, .putfield 49, 3, 1), (78, .return_, 1, 6), (79, .aload_n 0, 1, 0)],
  [(80, .aload_n 0, 1, 0), (81, .getfield 22, 3, 1), (84, .putfield 46, 3, 1), (87, .aload_n 0, 1, 0), (88, .aload_n 0, 1, 0), (89, .getfield 22, 3, 1), (92, .invokevirtual 34, 3, 3), (95, .istore_n 1, 1, 0)],
  [(96, .aload_n 0, 1, 0), (97, .getfield 22, 3, 1), (100, .aload_n 0, 1, 0), (101, .getfield 15, 3, 1), (104, .if_icmp .lt 11, 3, 2), (107, .aload_n 0, 1, 0), (108, .iconst 0, 1, 0), (109, .putfield 49, 3, 1)],
  [(112, .goto 50, 3, 2), (115, .iload_n 1, 1, 0), (116, .invokestatic 52, 3, 3), (119, .ifCond .ne 10, 3, 2), (122, .iload_n 1, 1, 0), (123, .invokestatic 55, 3, 3), (126, .ifCond .eq 10, 3, 2)],
  [(129, .aload_n 0, 1, 0), (130, .invokevirtual 58, 3, 3), (133, .goto 29, 3, 2), (136, .aload_n 0, 1, 0), (137, .iload_n 1, 1, 0), (138, .invokestatic 61, 3, 3), (141, .ifCond .eq 7, 3, 2)],
  [(144, .iload_n 1, 1, 0), (145, .goto 4, 3, 2), (148, .iconst 1, 1, 0), (149, .putfield 49, 3, 1), (152, .aload_n 0, 1, 0), (153, .dup, 1, 0), (154, .getfield 22, 3, 1), (157, .iconst 1, 1, 0), (158, .iadd, 1, 0), (159, .putfield 22, 3, 1)],
  [(162, .return_, 1, 6)]]
theorem nn_d10 : ab_dtok prog_10_method_5_code nn_dt10 = true := dw_ok (by decide +kernel)
def nn_dt11 : ab_DT := [[(0, .iload_n 1, 1, 0), (1, .ifCond .lt 33, 3, 2), (4, .iload_n 1, 1, 0), (5, .aload_n 0, 1, 0), (6, .getfield 15, 3, 1), (9, .if_icmp .ge 25, 3, 2), (12, .iload_n 1, 1, 0), (13, .aload_n 0, 1, 0), (14, .getfield 11, 3, 1)],
  [(17, .arraylength, 1, 1), (18, .if_icmp .ge 16, 3, 2), (21, .aload_n 0, 1, 0), (22, .getfield 11, 3, 1), (25, .iload_n 1, 1, 0), (26, .baload, 1, 1), (27, .sipush 255, 3, 0), (30, .iand, 1, 0), (31, .goto 4, 3, 2)],
  [(34, .iconst 0, 1, 0), (35, .ireturn, 1, 6)]]
theorem nn_d11 : ab_dtok prog_10_method_8_code nn_dt11 = true := dw_ok (by decide +kernel)
def nn_dt12 : ab_DT := [[(0, .iload_n 0, 1, 0), (1, .bipush 32, 2, 0), (3, .if_icmp .eq 9, 3, 2), (6, .iload_n 0, 1, 0), (7, .bipush 10, 2, 0), (9, .if_icmp .ne 7, 3, 2), (12, .iconst 1, 1, 0), (13, .goto 4, 3, 2)],
  [(16, .iconst 0, 1, 0), (17, .ireturn, 1, 6)]]
theorem nn_d12 : ab_dtok prog_10_method_16_code nn_dt12 = true := dw_ok (by decide +kernel)
def nn_dt13 : ab_DT := [[(0, .iload_n 0, 1, 0), (1, .bipush 97, 2, 0), (3, .if_icmp .lt 13, 3, 2), (6, .iload_n 0, 1, 0), (7, .bipush 122, 2, 0), (9, .if_icmp .gt 7, 3, 2), (12, .iconst 1, 1, 0), (13, .goto 4, 3, 2)],
  [(16, .iconst 0, 1, 0), (17, .ireturn, 1, 6)]]
theorem nn_d13 : ab_dtok prog_10_method_17_code nn_dt13 = true := dw_ok (by decide +kernel)
def nn_dt14 : ab_DT := [[(0, .iload_n 0, 1, 0), (1, .bipush 48, 2, 0), (3, .if_icmp .lt 13, 3, 2), (6, .iload_n 0, 1, 0), (7, .bipush 57, 2, 0), (9, .if_icmp .gt 7, 3, 2), (12, .iconst 1, 1, 0), (13, .goto 4, 3, 2)],
  [(16, .iconst 0, 1, 0), (17, .ireturn, 1, 6)]]
theorem nn_d14 : ab_dtok prog_10_method_18_code nn_dt14 = true := dw_ok (by decide +kernel)
def nn_dt15 : ab_DT := [[(0, .iconst 0, 1, 0), (1, .istore_n 1, 1, 0), (2, .iconst 0, 1, 0), (3, .istore_n 2, 1, 0), (4, .aload_n 0, 1, 0), (5, .lconst 0, 1, 0), (6, .putfield 64, 3, 1), (9, .aload_n 0, 1, 0), (10, .iconst 0, 1, 0), (11, .putfield 68, 3, 1), (14, .aload_n 0, 1, 0), (15, .aload_n 0, 1, 0)],
  [(16, .getfield 22, 3, 1), (19, .invokevirtual 34, 3, 3), (22, .istore_n 3, 1, 0), (23, .aload_n 0, 1, 0), (24, .getfield 22, 3, 1), (27, .aload_n 0, 1, 0), (28, .getfield 15, 3, 1), (31, .if_icmp .ge 83, 3, 2)],
  [(34, .iload_n 3, 1, 0), (35, .invokestatic 52, 3, 3), (38, .ifCond .ne 10, 3, 2), (41, .iload_n 3, 1, 0), (42, .invokestatic 55, 3, 3), (45, .ifCond .eq 69, 3, 2)],
  [(48, .iload_n 3, 1, 0), (49, .invokestatic 52, 3, 3), (52, .ifCond .eq 21, 3, 2), (55, .iinc 1 1, 3, 0), (58, .aload_n 0, 1, 0), (59, .aload_n 0, 1, 0), (60, .getfield 64, 3, 1), (63, .iload_n 3, 1, 0)],
  [(64, .invokestatic 71, 3, 3), (67, .putfield 64, 3, 1), (70, .goto 22, 3, 2), (73, .iinc 2 1, 3, 0), (76, .aload_n 0, 1, 0), (77, .aload_n 0, 1, 0), (78, .getfield 68, 3, 1)],
  [(81, .bipush 10, 2, 0), (83, .imul, 1, 0), (84, .iload_n 3, 1, 0), (85, .iadd, 1, 0), (86, .bipush 48, 2, 0), (88, .isub, 1, 0), (89, .putfield 68, 3, 1), (92, .aload_n 0, 1, 0), (93, .dup, 1, 0), (94, .getfield 22, 3, 1)],
  [(97, .iconst 1, 1, 0), (98, .iadd, 1, 0), (99, .putfield 22, 3, 1), (102, .aload_n 0, 1, 0), (103, .aload_n 0, 1, 0), (104, .getfield 22, 3, 1), (107, .invokevirtual 34, 3, 3), (110, .istore_n 3, 1, 0), (111, .goto (-88), 3, 2)],
  [(114, .aload_n 0, 1, 0), (115, .iconst 1, 1, 0), (116, .putfield 49, 3, 1), (119, .iload_n 2, 1, 0), (120, .ifCond .ne 21, 3, 2), (123, .iload_n 1, 1, 0), (124, .bipush 7, 2, 0), (126, .if_icmp .gt 15, 3, 2)],
  [(129, .aload_n 0, 1, 0), (130, .iconst 2, 1, 0), (131, .putfield 49, 3, 1), (134, .aload_n 0, 1, 0), (135, .invokevirtual 75, 3, 3), (138, .goto 17, 3, 2), (141, .iload_n 1, 1, 0), (142, .ifCond .ne 13, 3, 2)],
  [(145, .iload_n 2, 1, 0), (146, .iconst 2, 1, 0), (147, .if_icmp .gt 8, 3, 2), (150, .aload_n 0, 1, 0), (151, .iconst 3, 1, 0), (152, .putfield 49, 3, 1), (155, .return_, 1, 6)]]
theorem nn_d15 : ab_dtok prog_10_method_6_code nn_dt15 = true := dw_ok (by decide +kernel)
def nn_dt16 : ab_DT := [[(0, .lload_n 0, 1, 0), (1, .ldc2_w 94, 3, 0), (4, .lmul, 1, 0), (5, .iload_n 2, 1, 0), (6, .i2l, 1, 0), (7, .ladd, 1, 0), (8, .ldc2_w 96, 3, 0), (11, .lsub, 1, 0), (12, .lconst 1, 1, 0), (13, .ladd, 1, 0), (14, .lreturn, 1, 6)]]
theorem nn_d16 : ab_dtok prog_10_method_15_code nn_dt16 = true := dw_ok (by decide +kernel)
def nn_dt17 : ab_DT := [[(0, .iconst 0, 1, 0), (1, .istore_n 1, 1, 0), (2, .iload_n 1, 1, 0), (3, .getstatic 78, 3, 4), (6, .arraylength, 1, 1), (7, .if_icmp .ge 34, 3, 2), (10, .getstatic 78, 3, 4), (13, .iload_n 1, 1, 0), (14, .aaload, 1, 4), (15, .getfield 82, 3, 1)],
  [(18, .aload_n 0, 1, 0), (19, .getfield 64, 3, 1), (22, .lcmp, 1, 2), (23, .ifCond .ne 12, 3, 2), (26, .aload_n 0, 1, 0), (27, .getstatic 78, 3, 4), (30, .iload_n 1, 1, 0), (31, .aaload, 1, 4)],
  [(32, .putfield 42, 3, 1), (35, .iinc 1 1, 3, 0), (38, .goto (-36), 3, 2), (41, .return_, 1, 6)]]
theorem nn_d17 : ab_dtok prog_10_method_7_code nn_dt17 = true := dw_ok (by decide +kernel)
def nn_dt18 : ab_DT := [[(0, .iload_n 0, 1, 0), (1, .bipush 59, 2, 0), (3, .if_icmp .eq 33, 3, 2), (6, .iload_n 0, 1, 0), (7, .bipush 60, 2, 0), (9, .if_icmp .lt 9, 3, 2), (12, .iload_n 0, 1, 0), (13, .bipush 62, 2, 0), (15, .if_icmp .le 21, 3, 2)],
  [(18, .iload_n 0, 1, 0), (19, .bipush 40, 2, 0), (21, .if_icmp .eq 15, 3, 2), (24, .iload_n 0, 1, 0), (25, .bipush 41, 2, 0), (27, .if_icmp .eq 9, 3, 2), (30, .iload_n 0, 1, 0), (31, .bipush 46, 2, 0)],
  [(33, .if_icmp .ne 7, 3, 2), (36, .iconst 1, 1, 0), (37, .goto 4, 3, 2), (40, .iconst 0, 1, 0), (41, .ireturn, 1, 6)]]
theorem nn_d18 : ab_dtok prog_10_method_19_code nn_dt18 = true := dw_ok (by decide +kernel)
def nn_dt19 : ab_DT := [[(0, .aload_n 0, 1, 0), (1, .getfield 22, 3, 1), (4, .getstatic 64, 3, 4), (7, .invokevirtual 70, 3, 3), (10, .ifCond .eq 8, 3, 2), (13, .aload_n 0, 1, 0), (14, .invokevirtual 74, 3, 3)],
  [(17, .ireturn, 1, 6), (18, .aload_n 0, 1, 0), (19, .getfield 22, 3, 1), (22, .getstatic 77, 3, 4), (25, .invokevirtual 70, 3, 3), (28, .ifCond .eq 8, 3, 2), (31, .aload_n 0, 1, 0)],
  [(32, .invokevirtual 80, 3, 3), (35, .ireturn, 1, 6), (36, .aload_n 0, 1, 0), (37, .getfield 22, 3, 1), (40, .getstatic 83, 3, 4), (43, .invokevirtual 70, 3, 3), (46, .ifCond .eq 8, 3, 2)],
  [(49, .aload_n 0, 1, 0), (50, .invokevirtual 86, 3, 3), (53, .ireturn, 1, 6), (54, .aload_n 0, 1, 0), (55, .getfield 22, 3, 1), (58, .getstatic 89, 3, 4), (61, .invokevirtual 70, 3, 3)],
  [(64, .ifCond .eq 8, 3, 2), (67, .aload_n 0, 1, 0), (68, .invokevirtual 92, 3, 3), (71, .ireturn, 1, 6), (72, .aload_n 0, 1, 0), (73, .getfield 22, 3, 1), (76, .getstatic 95, 3, 4), (79, .invokevirtual 70, 3, 3)],
  [(82, .ifCond .eq 8, 3, 2), (85, .aload_n 0, 1, 0), (86, .invokevirtual 98, 3, 3), (89, .ireturn, 1, 6), (90, .aload_n 0, 1, 0), (91, .getfield 22, 3, 1), (94, .getstatic 101, 3, 4)],
  [(97, .invokevirtual 70, 3, 3), (100, .ifCond .eq 10, 3, 2), (103, .aload_n 0, 1, 0), (104, .invokevirtual 104, 3, 3), (107, .goto 11, 3, 2), (110, .aload_n 0, 1, 0), (111, .getfield 22, 3, 1)],
  [(114, .iconst 1, 1, 0), (115, .invokevirtual 107, 3, 3), (118, .ireturn, 1, 6)]]
theorem nn_d19 : ab_dtok prog_9_method_3_code nn_dt19 = true := dw_ok (by decide +kernel)
def nn_dt20 : ab_DT := [[(0, .aload_n 0, 1, 0), (1, .getfield 49, 3, 1), (4, .iconst 2, 1, 0), (5, .if_icmp .ne 15, 3, 2), (8, .aload_n 0, 1, 0), (9, .getfield 42, 3, 1), (12, .aload_n 1, 1, 0), (13, .if_acmp .ne 7, 3, 2)],
  [(16, .iconst 1, 1, 0), (17, .goto 4, 3, 2), (20, .iconst 0, 1, 0), (21, .ireturn, 1, 6)]]
theorem nn_d20 : ab_dtok prog_10_method_10_code nn_dt20 = true := dw_ok (by decide +kernel)
def nn_dt21 : ab_DT := [[(0, .aload_n 0, 1, 0), (1, .getfield 12, 3, 1), (4, .getfield 110, 3, 1), (7, .istore_n 1, 1, 0), (8, .iload_n 1, 1, 0), (9, .bipush 9, 2, 0), (11, .if_icmp .lt 12, 3, 2), (14, .aload_n 0, 1, 0), (15, .getfield 22, 3, 1)],
  [(18, .iconst 4, 1, 0), (19, .invokevirtual 107, 3, 3), (22, .ireturn, 1, 6), (23, .aload_n 0, 1, 0), (24, .getfield 22, 3, 1), (27, .invokevirtual 113, 3, 3), (30, .aload_n 0, 1, 0), (31, .invokevirtual 116, 3, 3)],
  [(34, .ifCond .ne 5, 3, 2), (37, .iconst 0, 1, 0), (38, .ireturn, 1, 6), (39, .aload_n 0, 1, 0), (40, .getfield 12, 3, 1), (43, .getfield 119, 3, 1), (46, .iload_n 1, 1, 0), (47, .aload_n 0, 1, 0)],
  [(48, .getfield 22, 3, 1), (51, .getfield 123, 3, 1), (54, .invokestatic 127, 3, 3), (57, .aload_n 0, 1, 0), (58, .getfield 12, 3, 1), (61, .getfield 131, 3, 1)],
  [(64, .iload_n 1, 1, 0), (65, .iconst 0, 1, 0), (66, .invokestatic 134, 3, 3), (69, .aload_n 0, 1, 0), (70, .getfield 12, 3, 1), (73, .dup, 1, 0), (74, .getfield 110, 3, 1), (77, .iconst 1, 1, 0), (78, .iadd, 1, 0), (79, .putfield 110, 3, 1)],
  [(82, .aload_n 0, 1, 0), (83, .getfield 22, 3, 1), (86, .invokevirtual 113, 3, 3), (89, .aload_n 0, 1, 0), (90, .iload_n 1, 1, 0), (91, .invokevirtual 137, 3, 3), (94, .istore_n 2, 1, 0), (95, .iconst 0, 1, 0)],
  [(96, .istore_n 3, 1, 0), (97, .iload_n 3, 1, 0), (98, .bipush 9, 2, 0), (100, .if_icmp .ge 30, 3, 2), (103, .iload_n 2, 1, 0), (104, .ifCond .eq 26, 3, 2), (107, .aload_n 0, 1, 0), (108, .getfield 22, 3, 1), (111, .getfield 50, 3, 1)],
  [(114, .iconst 3, 1, 0), (115, .if_icmp .ne 15, 3, 2), (118, .aload_n 0, 1, 0), (119, .iload_n 1, 1, 0), (120, .invokevirtual 137, 3, 3), (123, .istore_n 2, 1, 0), (124, .iinc 3 1, 3, 0), (127, .goto (-30), 3, 2)],
  [(130, .iload_n 2, 1, 0), (131, .ireturn, 1, 6)]]
theorem nn_d21 : ab_dtok prog_9_method_4_code nn_dt21 = true := dw_ok (by decide +kernel)
def nn_dt22 : ab_DT := [[(0, .aload_n 0, 1, 0), (1, .iload_n 1, 1, 0), (2, .putfield 25, 3, 1), (5, .aload_n 0, 1, 0), (6, .aload_n 0, 1, 0), (7, .getfield 46, 3, 1), (10, .putfield 28, 3, 1), (13, .iconst 0, 1, 0), (14, .ireturn, 1, 6)]]
theorem nn_d22 : ab_dtok prog_10_method_14_code nn_dt22 = true := dw_ok (by decide +kernel)
def nn_dt23 : ab_DT := [[(0, .aload_n 0, 1, 0), (1, .getfield 22, 3, 1), (4, .invokevirtual 198, 3, 3), (7, .ifCond .ne 12, 3, 2), (10, .aload_n 0, 1, 0), (11, .getfield 22, 3, 1), (14, .iconst 1, 1, 0), (15, .invokevirtual 107, 3, 3)],
  [(18, .ireturn, 1, 6), (19, .aload_n 0, 1, 0), (20, .aload_n 0, 1, 0), (21, .getfield 12, 3, 1), (24, .getfield 119, 3, 1), (27, .aload_n 0, 1, 0), (28, .getfield 12, 3, 1), (31, .getfield 110, 3, 1)],
  [(34, .invokevirtual 201, 3, 3), (37, .ifCond .ne 45, 3, 2), (40, .aload_n 0, 1, 0), (41, .aload_n 0, 1, 0), (42, .getfield 12, 3, 1), (45, .getfield 160, 3, 1)],
  [(48, .aload_n 0, 1, 0), (49, .getfield 12, 3, 1), (52, .getfield 157, 3, 1), (55, .invokevirtual 201, 3, 3), (58, .ifCond .ne 24, 3, 2), (61, .aload_n 0, 1, 0), (62, .aload_n 0, 1, 0), (63, .getfield 12, 3, 1)],
  [(66, .getfield 179, 3, 1), (69, .aload_n 0, 1, 0), (70, .getfield 12, 3, 1), (73, .getfield 176, 3, 1), (76, .invokevirtual 201, 3, 3), (79, .ifCond .eq 7, 3, 2)],
  [(82, .iconst 1, 1, 0), (83, .goto 4, 3, 2), (86, .iconst 0, 1, 0), (87, .istore_n 1, 1, 0), (88, .iload_n 1, 1, 0), (89, .ifCond .eq 14, 3, 2), (92, .aload_n 0, 1, 0), (93, .getfield 22, 3, 1)],
  [(96, .iconst 3, 1, 0), (97, .invokevirtual 107, 3, 3), (100, .ifCond .eq 7, 3, 2), (103, .iconst 1, 1, 0), (104, .goto 4, 3, 2), (107, .iconst 0, 1, 0), (108, .ireturn, 1, 6)]]
theorem nn_d23 : ab_dtok prog_9_method_12_code nn_dt23 = true := dw_ok (by decide +kernel)
def nn_dt24 : ab_DT := [[(0, .aload_n 0, 1, 0), (1, .getfield 49, 3, 1), (4, .iconst 2, 1, 0), (5, .if_icmp .ne 14, 3, 2), (8, .aload_n 0, 1, 0), (9, .getfield 42, 3, 1), (12, .ifnonnull 7, 3, 2), (15, .iconst 1, 1, 0)],
  [(16, .goto 4, 3, 2), (19, .iconst 0, 1, 0), (20, .ireturn, 1, 6)]]
theorem nn_d24 : ab_dtok prog_10_method_9_code nn_dt24 = true := dw_ok (by decide +kernel)
def nn_dt25 : ab_DT := [[(0, .iconst 0, 1, 0), (1, .istore_n 3, 1, 0), (2, .iload_n 3, 1, 0), (3, .iload_n 2, 1, 0), (4, .if_icmp .ge 31, 3, 2), (7, .iload_n 3, 1, 0), (8, .aload_n 1, 1, 0), (9, .arraylength, 1, 1), (10, .if_icmp .ge 25, 3, 2), (13, .aload_n 1, 1, 0), (14, .iload_n 3, 1, 0), (15, .laload, 1, 1)],
  [(16, .aload_n 0, 1, 0), (17, .getfield 22, 3, 1), (20, .getfield 123, 3, 1), (23, .lcmp, 1, 2), (24, .ifCond .ne 5, 3, 2), (27, .iconst 1, 1, 0), (28, .ireturn, 1, 6), (29, .iinc 3 1, 3, 0)],
  [(32, .goto (-30), 3, 2), (35, .iconst 0, 1, 0), (36, .ireturn, 1, 6)]]
theorem nn_d25 : ab_dtok prog_9_method_13_code nn_dt25 = true := dw_ok (by decide +kernel)
def nn_dt26 : ab_DT := [[(0, .aload_n 0, 1, 0), (1, .ifnull 17, 3, 2), (4, .iload_n 1, 1, 0), (5, .ifCond .lt 13, 3, 2), (8, .iload_n 1, 1, 0), (9, .aload_n 0, 1, 0), (10, .arraylength, 1, 1), (11, .if_icmp .ge 7, 3, 2), (14, .aload_n 0, 1, 0), (15, .iload_n 1, 1, 0)],
  [(16, .lload_n 2, 1, 0), (17, .lastore, 1, 1), (18, .return_, 1, 6)]]
theorem nn_d26 : ab_dtok prog_1_method_87_code nn_dt26 = true := dw_ok (by decide +kernel)
def nn_dt27 : ab_DT := [[(0, .aload_n 0, 1, 0), (1, .ifnull 17, 3, 2), (4, .iload_n 1, 1, 0), (5, .ifCond .lt 13, 3, 2), (8, .iload_n 1, 1, 0), (9, .aload_n 0, 1, 0), (10, .arraylength, 1, 1), (11, .if_icmp .ge 7, 3, 2), (14, .aload_n 0, 1, 0), (15, .iload_n 1, 1, 0)],
  [(16, .iload_n 2, 1, 0), (17, .iastore, 1, 1), (18, .return_, 1, 6)]]
theorem nn_d27 : ab_dtok prog_1_method_86_code nn_dt27 = true := dw_ok (by decide +kernel)
def nn_dt28 : ab_DT := [[(0, .aload_n 0, 1, 0), (1, .getfield 12, 3, 1), (4, .getfield 131, 3, 1), (7, .iload_n 1, 1, 0), (8, .invokestatic 140, 3, 3), (11, .istore_n 2, 1, 0), (12, .aload_n 0, 1, 0), (13, .getfield 22, 3, 1)],
  [(16, .iconst 0, 1, 0), (17, .bipush 24, 2, 0), (19, .invokevirtual 144, 3, 3), (22, .ifCond .ne 5, 3, 2), (25, .iconst 0, 1, 0), (26, .ireturn, 1, 6), (27, .iload_n 2, 1, 0), (28, .bipush 9, 2, 0), (30, .if_icmp .lt 12, 3, 2)],
  [(33, .aload_n 0, 1, 0), (34, .getfield 22, 3, 1), (37, .iconst 4, 1, 0), (38, .invokevirtual 107, 3, 3), (41, .ireturn, 1, 6), (42, .aload_n 0, 1, 0), (43, .getfield 12, 3, 1), (46, .getfield 148, 3, 1)],
  [(49, .iload_n 1, 1, 0), (50, .bipush 9, 2, 0), (52, .imul, 1, 0), (53, .iload_n 2, 1, 0), (54, .iadd, 1, 0), (55, .aload_n 0, 1, 0), (56, .getfield 22, 3, 1), (59, .getfield 151, 3, 1), (62, .invokestatic 134, 3, 3)],
  [(65, .aload_n 0, 1, 0), (66, .getfield 22, 3, 1), (69, .invokevirtual 113, 3, 3), (72, .aload_n 0, 1, 0), (73, .getfield 22, 3, 1), (76, .iconst 1, 1, 0), (77, .bipush 9, 2, 0), (79, .invokevirtual 144, 3, 3)],
  [(82, .ifCond .ne 5, 3, 2), (85, .iconst 0, 1, 0), (86, .ireturn, 1, 6), (87, .aload_n 0, 1, 0), (88, .getfield 12, 3, 1), (91, .getfield 154, 3, 1), (94, .iload_n 1, 1, 0), (95, .bipush 9, 2, 0)],
  [(97, .imul, 1, 0), (98, .iload_n 2, 1, 0), (99, .iadd, 1, 0), (100, .aload_n 0, 1, 0), (101, .getfield 22, 3, 1), (104, .getfield 151, 3, 1), (107, .invokestatic 134, 3, 3), (110, .aload_n 0, 1, 0), (111, .getfield 12, 3, 1)],
  [(114, .getfield 131, 3, 1), (117, .iload_n 1, 1, 0), (118, .iload_n 2, 1, 0), (119, .iconst 1, 1, 0), (120, .iadd, 1, 0), (121, .invokestatic 134, 3, 3), (124, .aload_n 0, 1, 0), (125, .getfield 22, 3, 1)],
  [(128, .invokevirtual 113, 3, 3), (131, .iconst 1, 1, 0), (132, .ireturn, 1, 6)]]
theorem nn_d28 : ab_dtok prog_9_method_5_code nn_dt28 = true := dw_ok (by decide +kernel)
def nn_dt29 : ab_DT := [[(0, .aload_n 0, 1, 0), (1, .ifnull 19, 3, 2), (4, .iload_n 1, 1, 0), (5, .ifCond .lt 15, 3, 2), (8, .iload_n 1, 1, 0), (9, .aload_n 0, 1, 0), (10, .arraylength, 1, 1), (11, .if_icmp .ge 9, 3, 2), (14, .aload_n 0, 1, 0), (15, .iload_n 1, 1, 0)],
  [(16, .iaload, 1, 1), (17, .goto 4, 3, 2), (20, .iconst 0, 1, 0), (21, .ireturn, 1, 6)]]
theorem nn_d29 : ab_dtok prog_1_method_84_code nn_dt29 = true := dw_ok (by decide +kernel)
def nn_dt30 : ab_DT := [[(0, .aload_n 0, 1, 0), (1, .getfield 49, 3, 1), (4, .iconst 3, 1, 0), (5, .if_icmp .eq 9, 3, 2), (8, .aload_n 0, 1, 0), (9, .iconst 1, 1, 0), (10, .invokevirtual 91, 3, 3), (13, .ireturn, 1, 6), (14, .aload_n 0, 1, 0), (15, .getfield 68, 3, 1)],
  [(18, .iload_n 1, 1, 0), (19, .if_icmp .lt 11, 3, 2), (22, .aload_n 0, 1, 0), (23, .getfield 68, 3, 1), (26, .iload_n 2, 1, 0), (27, .if_icmp .le 11, 3, 2), (30, .aload_n 0, 1, 0), (31, .iconst 2, 1, 0)],
  [(32, .invokevirtual 91, 3, 3), (35, .ifCond .eq 7, 3, 2), (38, .iconst 1, 1, 0), (39, .goto 4, 3, 2), (42, .iconst 0, 1, 0), (43, .ireturn, 1, 6)]]
theorem nn_d30 : ab_dtok prog_10_method_12_code nn_dt30 = true := dw_ok (by decide +kernel)
def nn_dt31 : ab_DT := [[(0, .aload_n 0, 1, 0), (1, .getfield 12, 3, 1), (4, .getfield 157, 3, 1), (7, .istore_n 1, 1, 0), (8, .iload_n 1, 1, 0), (9, .bipush 6, 2, 0), (11, .if_icmp .lt 12, 3, 2), (14, .aload_n 0, 1, 0), (15, .getfield 22, 3, 1)],
  [(18, .iconst 4, 1, 0), (19, .invokevirtual 107, 3, 3), (22, .ireturn, 1, 6), (23, .aload_n 0, 1, 0), (24, .getfield 22, 3, 1), (27, .invokevirtual 113, 3, 3), (30, .aload_n 0, 1, 0), (31, .invokevirtual 116, 3, 3)],
  [(34, .ifCond .ne 5, 3, 2), (37, .iconst 0, 1, 0), (38, .ireturn, 1, 6), (39, .aload_n 0, 1, 0), (40, .getfield 12, 3, 1), (43, .getfield 160, 3, 1), (46, .iload_n 1, 1, 0), (47, .aload_n 0, 1, 0)],
  [(48, .getfield 22, 3, 1), (51, .getfield 123, 3, 1), (54, .invokestatic 127, 3, 3), (57, .aload_n 0, 1, 0), (58, .getfield 12, 3, 1), (61, .getfield 163, 3, 1)],
  [(64, .iload_n 1, 1, 0), (65, .iconst 0, 1, 0), (66, .invokestatic 134, 3, 3), (69, .aload_n 0, 1, 0), (70, .getfield 12, 3, 1), (73, .dup, 1, 0), (74, .getfield 157, 3, 1), (77, .iconst 1, 1, 0), (78, .iadd, 1, 0), (79, .putfield 157, 3, 1)],
  [(82, .aload_n 0, 1, 0), (83, .getfield 22, 3, 1), (86, .invokevirtual 113, 3, 3), (89, .aload_n 0, 1, 0), (90, .iload_n 1, 1, 0), (91, .invokevirtual 166, 3, 3), (94, .istore_n 2, 1, 0), (95, .iconst 0, 1, 0)],
  [(96, .istore_n 3, 1, 0), (97, .iload_n 3, 1, 0), (98, .bipush 9, 2, 0), (100, .if_icmp .ge 30, 3, 2), (103, .iload_n 2, 1, 0), (104, .ifCond .eq 26, 3, 2), (107, .aload_n 0, 1, 0), (108, .getfield 22, 3, 1), (111, .getfield 50, 3, 1)],
  [(114, .iconst 2, 1, 0), (115, .if_icmp .ne 15, 3, 2), (118, .aload_n 0, 1, 0), (119, .iload_n 1, 1, 0), (120, .invokevirtual 166, 3, 3), (123, .istore_n 2, 1, 0), (124, .iinc 3 1, 3, 0), (127, .goto (-30), 3, 2)],
  [(130, .iload_n 2, 1, 0), (131, .ireturn, 1, 6)]]
theorem nn_d31 : ab_dtok prog_9_method_6_code nn_dt31 = true := dw_ok (by decide +kernel)
def nn_dt32 : ab_DT := [[(0, .aload_n 0, 1, 0), (1, .getfield 22, 3, 1), (4, .aload_n 0, 1, 0), (5, .getfield 12, 3, 1), (8, .getfield 119, 3, 1), (11, .aload_n 0, 1, 0), (12, .getfield 12, 3, 1), (15, .getfield 110, 3, 1)],
  [(18, .invokevirtual 169, 3, 3), (21, .istore_n 2, 1, 0), (22, .iload_n 2, 1, 0), (23, .iconst (-1), 1, 0), (24, .if_icmp .ne 5, 3, 2), (27, .iconst 0, 1, 0), (28, .ireturn, 1, 6), (29, .aload_n 0, 1, 0), (30, .getfield 12, 3, 1)],
  [(33, .getfield 163, 3, 1), (36, .iload_n 1, 1, 0), (37, .invokestatic 140, 3, 3), (40, .istore_n 3, 1, 0), (41, .iload_n 3, 1, 0), (42, .iload_n 2, 1, 0), (43, .invokestatic 173, 3, 3), (46, .ifCond .eq 12, 3, 2)],
  [(49, .aload_n 0, 1, 0), (50, .getfield 22, 3, 1), (53, .iconst 3, 1, 0), (54, .invokevirtual 107, 3, 3), (57, .ireturn, 1, 6), (58, .aload_n 0, 1, 0), (59, .getfield 12, 3, 1), (62, .getfield 163, 3, 1)],
  [(65, .iload_n 1, 1, 0), (66, .iload_n 3, 1, 0), (67, .iconst 1, 1, 0), (68, .iload_n 2, 1, 0), (69, .ishl, 1, 0), (70, .ior, 1, 0), (71, .invokestatic 134, 3, 3), (74, .aload_n 0, 1, 0), (75, .getfield 22, 3, 1), (78, .invokevirtual 113, 3, 3)],
  [(81, .iconst 1, 1, 0), (82, .ireturn, 1, 6)]]
theorem nn_d32 : ab_dtok prog_9_method_7_code nn_dt32 = true := dw_ok (by decide +kernel)
def nn_dt33 : ab_DT := [[(0, .aload_n 0, 1, 0), (1, .invokevirtual 87, 3, 3), (4, .ifCond .ne 11, 3, 2), (7, .aload_n 0, 1, 0), (8, .iconst 1, 1, 0), (9, .invokevirtual 91, 3, 3), (12, .pop, 1, 0), (13, .iconst (-1), 1, 0), (14, .ireturn, 1, 6), (15, .iconst 0, 1, 0)],
  [(16, .istore_n 3, 1, 0), (17, .iload_n 3, 1, 0), (18, .iload_n 2, 1, 0), (19, .if_icmp .ge 28, 3, 2), (22, .iload_n 3, 1, 0), (23, .aload_n 1, 1, 0), (24, .arraylength, 1, 1), (25, .if_icmp .ge 22, 3, 2), (28, .aload_n 1, 1, 0), (29, .iload_n 3, 1, 0), (30, .laload, 1, 1), (31, .aload_n 0, 1, 0)],
  [(32, .getfield 64, 3, 1), (35, .lcmp, 1, 2), (36, .ifCond .ne 5, 3, 2), (39, .iload_n 3, 1, 0), (40, .ireturn, 1, 6), (41, .iinc 3 1, 3, 0), (44, .goto (-27), 3, 2), (47, .aload_n 0, 1, 0)],
  [(48, .iconst 3, 1, 0), (49, .invokevirtual 91, 3, 3), (52, .pop, 1, 0), (53, .iconst (-1), 1, 0), (54, .ireturn, 1, 6)]]
theorem nn_d33 : ab_dtok prog_10_method_11_code nn_dt33 = true := dw_ok (by decide +kernel)
def nn_dt34 : ab_DT := [[(0, .iload_n 1, 1, 0), (1, .ifCond .lt 22, 3, 2), (4, .iload_n 1, 1, 0), (5, .bipush 9, 2, 0), (7, .if_icmp .ge 16, 3, 2), (10, .iload_n 0, 1, 0), (11, .iload_n 1, 1, 0), (12, .ishr, 1, 0), (13, .iconst 1, 1, 0), (14, .iand, 1, 0), (15, .iconst 1, 1, 0)],
  [(16, .if_icmp .ne 7, 3, 2), (19, .iconst 1, 1, 0), (20, .goto 4, 3, 2), (23, .iconst 0, 1, 0), (24, .ireturn, 1, 6)]]
theorem nn_d34 : ab_dtok prog_1_method_80_code nn_dt34 = true := dw_ok (by decide +kernel)
def nn_dt35 : ab_DT := [[(0, .aload_n 0, 1, 0), (1, .getfield 12, 3, 1), (4, .getfield 176, 3, 1), (7, .istore_n 1, 1, 0), (8, .iload_n 1, 1, 0), (9, .iconst 5, 1, 0), (10, .if_icmp .lt 12, 3, 2), (13, .aload_n 0, 1, 0), (14, .getfield 22, 3, 1)],
  [(17, .iconst 4, 1, 0), (18, .invokevirtual 107, 3, 3), (21, .ireturn, 1, 6), (22, .aload_n 0, 1, 0), (23, .getfield 22, 3, 1), (26, .invokevirtual 113, 3, 3), (29, .aload_n 0, 1, 0), (30, .invokevirtual 116, 3, 3)],
  [(33, .ifCond .ne 5, 3, 2), (36, .iconst 0, 1, 0), (37, .ireturn, 1, 6), (38, .aload_n 0, 1, 0), (39, .getfield 12, 3, 1), (42, .getfield 179, 3, 1), (45, .iload_n 1, 1, 0), (46, .aload_n 0, 1, 0), (47, .getfield 22, 3, 1)],
  [(50, .getfield 123, 3, 1), (53, .invokestatic 127, 3, 3), (56, .aload_n 0, 1, 0), (57, .getfield 12, 3, 1), (60, .dup, 1, 0), (61, .getfield 176, 3, 1)],
  [(64, .iconst 1, 1, 0), (65, .iadd, 1, 0), (66, .putfield 176, 3, 1), (69, .aload_n 0, 1, 0), (70, .getfield 22, 3, 1), (73, .invokevirtual 113, 3, 3), (76, .iconst 1, 1, 0), (77, .ireturn, 1, 6)]]
theorem nn_d35 : ab_dtok prog_9_method_8_code nn_dt35 = true := dw_ok (by decide +kernel)
def nn_dt36 : ab_DT := [[(0, .aload_n 0, 1, 0), (1, .getfield 22, 3, 1), (4, .invokevirtual 113, 3, 3), (7, .aload_n 0, 1, 0), (8, .getfield 22, 3, 1), (11, .aload_n 0, 1, 0), (12, .getfield 12, 3, 1), (15, .getfield 179, 3, 1)],
  [(18, .aload_n 0, 1, 0), (19, .getfield 12, 3, 1), (22, .getfield 176, 3, 1), (25, .invokevirtual 169, 3, 3), (28, .istore_n 1, 1, 0), (29, .aload_n 0, 1, 0), (30, .getfield 22, 3, 1)],
  [(33, .getfield 182, 3, 1), (36, .istore_n 2, 1, 0), (37, .iload_n 1, 1, 0), (38, .iconst (-1), 1, 0), (39, .if_icmp .ne 5, 3, 2), (42, .iconst 0, 1, 0), (43, .ireturn, 1, 6), (44, .aload_n 0, 1, 0), (45, .getfield 22, 3, 1)],
  [(48, .invokevirtual 113, 3, 3), (51, .aload_n 0, 1, 0), (52, .getfield 22, 3, 1), (55, .aload_n 0, 1, 0), (56, .getfield 12, 3, 1), (59, .getfield 119, 3, 1), (62, .aload_n 0, 1, 0), (63, .getfield 12, 3, 1)],
  [(66, .getfield 110, 3, 1), (69, .invokevirtual 169, 3, 3), (72, .istore_n 3, 1, 0), (73, .iload_n 3, 1, 0), (74, .iconst (-1), 1, 0), (75, .if_icmp .ne 5, 3, 2), (78, .iconst 0, 1, 0), (79, .ireturn, 1, 6)],
  [(80, .aload_n 0, 1, 0), (81, .getfield 18, 3, 1), (84, .iload_n 1, 1, 0), (85, .invokestatic 140, 3, 3), (88, .istore 4, 2, 0), (90, .iload 4, 2, 0), (92, .iload_n 3, 1, 0), (93, .invokestatic 173, 3, 3)],
  [(96, .ifCond .eq 22, 3, 2), (99, .aload_n 0, 1, 0), (100, .getfield 22, 3, 1), (103, .iconst 3, 1, 0), (104, .invokevirtual 107, 3, 3), (107, .pop, 1, 0), (108, .aload_n 0, 1, 0), (109, .getfield 22, 3, 1)],
  [(112, .iload_n 2, 1, 0), (113, .putfield 185, 3, 1), (116, .iconst 0, 1, 0), (117, .ireturn, 1, 6), (118, .aload_n 0, 1, 0), (119, .getfield 18, 3, 1), (122, .iload_n 1, 1, 0), (123, .iload 4, 2, 0), (125, .iconst 1, 1, 0), (126, .iload_n 3, 1, 0), (127, .ishl, 1, 0)],
  [(128, .ior, 1, 0), (129, .invokestatic 134, 3, 3), (132, .aload_n 0, 1, 0), (133, .getfield 22, 3, 1), (136, .invokevirtual 113, 3, 3), (139, .aload_n 0, 1, 0), (140, .getfield 22, 3, 1), (143, .iconst 0, 1, 0)],
  [(144, .bipush 9, 2, 0), (146, .invokevirtual 144, 3, 3), (149, .ifCond .ne 5, 3, 2), (152, .iconst 0, 1, 0), (153, .ireturn, 1, 6), (154, .aload_n 0, 1, 0), (155, .getfield 12, 3, 1), (158, .iload_n 1, 1, 0), (159, .iload_n 3, 1, 0)],
  [(160, .aload_n 0, 1, 0), (161, .getfield 22, 3, 1), (164, .getfield 151, 3, 1), (167, .invokevirtual 188, 3, 3), (170, .aload_n 0, 1, 0), (171, .getfield 22, 3, 1), (174, .invokevirtual 113, 3, 3)],
  [(177, .iconst 1, 1, 0), (178, .ireturn, 1, 6)]]
theorem nn_d36 : ab_dtok prog_9_method_9_code nn_dt36 = true := dw_ok (by decide +kernel)
def nn_dt37 : ab_DT := [[(0, .aload_n 0, 1, 0), (1, .getfield 27, 3, 1), (4, .iload_n 1, 1, 0), (5, .bipush 9, 2, 0), (7, .imul, 1, 0), (8, .iload_n 2, 1, 0), (9, .iadd, 1, 0), (10, .iload_n 3, 1, 0), (11, .invokestatic 99, 3, 3), (14, .return_, 1, 6)]]
theorem nn_d37 : ab_dtok prog_8_method_14_code nn_dt37 = true := dw_ok (by decide +kernel)
def nn_dt38 : ab_DT := [[(0, .aload_n 0, 1, 0), (1, .getfield 22, 3, 1), (4, .invokevirtual 113, 3, 3), (7, .aload_n 0, 1, 0), (8, .getfield 22, 3, 1), (11, .aload_n 0, 1, 0), (12, .getfield 12, 3, 1), (15, .getfield 179, 3, 1)],
  [(18, .aload_n 0, 1, 0), (19, .getfield 12, 3, 1), (22, .getfield 176, 3, 1), (25, .invokevirtual 169, 3, 3), (28, .istore_n 1, 1, 0), (29, .iload_n 1, 1, 0), (30, .iconst (-1), 1, 0), (31, .if_icmp .ne 5, 3, 2)],
  [(34, .iconst 0, 1, 0), (35, .ireturn, 1, 6), (36, .aload_n 0, 1, 0), (37, .getfield 33, 3, 1), (40, .iload_n 1, 1, 0), (41, .invokestatic 173, 3, 3), (44, .ifCond .eq 12, 3, 2), (47, .aload_n 0, 1, 0)],
  [(48, .getfield 22, 3, 1), (51, .iconst 3, 1, 0), (52, .invokevirtual 107, 3, 3), (55, .ireturn, 1, 6), (56, .aload_n 0, 1, 0), (57, .dup, 1, 0), (58, .getfield 33, 3, 1), (61, .iconst 1, 1, 0), (62, .iload_n 1, 1, 0), (63, .ishl, 1, 0)],
  [(64, .ior, 1, 0), (65, .putfield 33, 3, 1), (68, .aload_n 0, 1, 0), (69, .getfield 22, 3, 1), (72, .invokevirtual 113, 3, 3), (75, .aload_n 0, 1, 0), (76, .getfield 22, 3, 1), (79, .iconst 0, 1, 0)],
  [(80, .bipush 9, 2, 0), (82, .invokevirtual 144, 3, 3), (85, .ifCond .ne 5, 3, 2), (88, .iconst 0, 1, 0), (89, .ireturn, 1, 6), (90, .aload_n 0, 1, 0), (91, .getfield 12, 3, 1), (94, .getfield 192, 3, 1)],
  [(97, .iload_n 1, 1, 0), (98, .aload_n 0, 1, 0), (99, .getfield 22, 3, 1), (102, .getfield 151, 3, 1), (105, .invokestatic 134, 3, 3), (108, .aload_n 0, 1, 0), (109, .getfield 22, 3, 1)],
  [(112, .invokevirtual 113, 3, 3), (115, .iconst 1, 1, 0), (116, .ireturn, 1, 6)]]
theorem nn_d38 : ab_dtok prog_9_method_10_code nn_dt38 = true := dw_ok (by decide +kernel)
def nn_dt39 : ab_DT := [[(0, .aload_n 0, 1, 0), (1, .getfield 37, 3, 1), (4, .ifCond .eq 12, 3, 2), (7, .aload_n 0, 1, 0), (8, .getfield 22, 3, 1), (11, .iconst 3, 1, 0), (12, .invokevirtual 107, 3, 3), (15, .ireturn, 1, 6)],
  [(16, .aload_n 0, 1, 0), (17, .iconst 1, 1, 0), (18, .putfield 37, 3, 1), (21, .aload_n 0, 1, 0), (22, .getfield 22, 3, 1), (25, .invokevirtual 113, 3, 3), (28, .aload_n 0, 1, 0), (29, .getfield 22, 3, 1)],
  [(32, .iconst 1, 1, 0), (33, .bipush 9, 2, 0), (35, .invokevirtual 144, 3, 3), (38, .ifCond .ne 5, 3, 2), (41, .iconst 0, 1, 0), (42, .ireturn, 1, 6), (43, .aload_n 0, 1, 0), (44, .getfield 12, 3, 1), (47, .aload_n 0, 1, 0)],
  [(48, .getfield 22, 3, 1), (51, .getfield 151, 3, 1), (54, .putfield 195, 3, 1), (57, .aload_n 0, 1, 0), (58, .getfield 22, 3, 1), (61, .invokevirtual 113, 3, 3)],
  [(64, .iconst 1, 1, 0), (65, .ireturn, 1, 6)]]
theorem nn_d39 : ab_dtok prog_9_method_11_code nn_dt39 = true := dw_ok (by decide +kernel)
def nn_DT_0 : List ab_DT := [nn_dt0, nn_dt1, nn_dt2, nn_dt3, nn_dt4, nn_dt5, nn_dt6, nn_dt7, nn_dt8, nn_dt9, nn_dt10, nn_dt11, nn_dt12, nn_dt13, nn_dt14, nn_dt15, nn_dt16, nn_dt17, nn_dt18, nn_dt19, nn_dt20, nn_dt21, nn_dt22, nn_dt23, nn_dt24, nn_dt25, nn_dt26, nn_dt27, nn_dt28, nn_dt29, nn_dt30, nn_dt31, nn_dt32, nn_dt33, nn_dt34, nn_dt35, nn_dt36, nn_dt37, nn_dt38, nn_dt39]
theorem nn_DT_0_ok : ab_dtP nn_MT_0 nn_DT_0 := ⟨nn_d0, nn_d1, nn_d2, nn_d3, nn_d4, nn_d5, nn_d6, nn_d7, nn_d8, nn_d9, nn_d10, nn_d11, nn_d12, nn_d13, nn_d14, nn_d15, nn_d16, nn_d17, nn_d18, nn_d19, nn_d20, nn_d21, nn_d22, nn_d23, nn_d24, nn_d25, nn_d26, nn_d27, nn_d28, nn_d29, nn_d30, nn_d31, nn_d32, nn_d33, nn_d34, nn_d35, nn_d36, nn_d37, nn_d38, nn_d39, trivial⟩
end
section
def nn_dt40 : ab_DT := [[(0, .aload_n 0, 1, 0), (1, .getfield 49, 3, 1), (4, .iload_n 1, 1, 0), (5, .if_icmp .eq 9, 3, 2), (8, .aload_n 0, 1, 0), (9, .iconst 1, 1, 0), (10, .invokevirtual 91, 3, 3), (13, .ireturn, 1, 6), (14, .aload_n 0, 1, 0), (15, .invokevirtual 31, 3, 3)],
  [(18, .iconst 1, 1, 0), (19, .ireturn, 1, 6)]]
theorem nn_d40 : ab_dtok prog_10_method_13_code nn_dt40 = true := dw_ok (by decide +kernel)
def nn_dt41 : ab_DT := [[(0, .iconst 0, 1, 0), (1, .istore_n 1, 1, 0), (2, .iload_n 1, 1, 0), (3, .iconst 4, 1, 0), (4, .if_icmp .ge 61, 3, 2), (7, .iconst 0, 1, 0), (8, .istore_n 2, 1, 0), (9, .iload_n 2, 1, 0), (10, .aload_n 0, 1, 0), (11, .getfield 54, 3, 1), (14, .if_icmp .ge 45, 3, 2)],
  [(17, .iconst 0, 1, 0), (18, .istore_n 3, 1, 0), (19, .iload_n 3, 1, 0), (20, .aload_n 0, 1, 0), (21, .getfield 54, 3, 1), (24, .if_icmp .ge 29, 3, 2), (27, .aload_n 0, 1, 0), (28, .getfield 21, 3, 1), (31, .iload_n 2, 1, 0)],
  [(32, .iload_n 3, 1, 0), (33, .iload_n 1, 1, 0), (34, .invokestatic 122, 3, 3), (37, .aload_n 0, 1, 0), (38, .iload_n 2, 1, 0), (39, .iload_n 3, 1, 0), (40, .iload_n 1, 1, 0), (41, .invokevirtual 126, 3, 3), (44, .invokestatic 99, 3, 3), (47, .iinc 3 1, 3, 0)],
  [(50, .goto (-31), 3, 2), (53, .iinc 2 1, 3, 0), (56, .goto (-47), 3, 2), (59, .iinc 1 1, 3, 0), (62, .goto (-60), 3, 2)],
  [(65, .return_, 1, 6)]]
theorem nn_d41 : ab_dtok prog_8_method_19_code nn_dt41 = true := dw_ok (by decide +kernel)
def nn_dt42 : ab_DT := [[(0, .iload_n 2, 1, 0), (1, .bipush 9, 2, 0), (3, .imul, 1, 0), (4, .iload_n 0, 1, 0), (5, .iadd, 1, 0), (6, .bipush 9, 2, 0), (8, .imul, 1, 0), (9, .iload_n 1, 1, 0), (10, .iadd, 1, 0), (11, .ireturn, 1, 6)]]
theorem nn_d42 : ab_dtok prog_8_method_21_code nn_dt42 = true := dw_ok (by decide +kernel)
def nn_dt43 : ab_DT := [[(0, .iconst 0, 1, 0), (1, .istore 4, 2, 0), (3, .iconst 0, 1, 0), (4, .istore 5, 2, 0), (6, .iload 5, 2, 0), (8, .bipush 9, 2, 0), (10, .if_icmp .ge 24, 3, 2), (13, .aload_n 0, 1, 0), (14, .iload_n 1, 1, 0), (15, .iload_n 2, 1, 0)],
  [(16, .iload 5, 2, 0), (18, .iload_n 3, 1, 0), (19, .invokevirtual 129, 3, 3), (22, .ifCond .eq 12, 3, 2), (25, .iinc 4 1, 3, 0), (28, .iinc 5 1, 3, 0), (31, .goto (-25), 3, 2)],
  [(34, .iload 4, 2, 0), (36, .ireturn, 1, 6)]]
theorem nn_d43 : ab_dtok prog_8_method_20_code nn_dt43 = true := dw_ok (by decide +kernel)
def nn_dt44 : ab_DT := [[(0, .aload_n 0, 1, 0), (1, .iload_n 1, 1, 0), (2, .iload_n 3, 1, 0), (3, .invokevirtual 118, 3, 3), (6, .ifCond .eq 12, 3, 2), (9, .aload_n 0, 1, 0), (10, .iload_n 2, 1, 0), (11, .iload_n 3, 1, 0), (12, .invokevirtual 118, 3, 3), (15, .ifCond .ne 24, 3, 2)],
  [(18, .aload_n 0, 1, 0), (19, .iload_n 1, 1, 0), (20, .iload_n 3, 1, 0), (21, .invokevirtual 118, 3, 3), (24, .aload_n 0, 1, 0), (25, .iload_n 2, 1, 0), (26, .iload_n 3, 1, 0), (27, .invokevirtual 118, 3, 3), (30, .if_icmp .ne 7, 3, 2)],
  [(33, .iconst 1, 1, 0), (34, .goto 4, 3, 2), (37, .iconst 0, 1, 0), (38, .ireturn, 1, 6), (39, .iload 4, 2, 0), (41, .iconst 3, 1, 0), (42, .if_icmp .ne 38, 3, 2), (45, .aload_n 0, 1, 0), (46, .iload_n 1, 1, 0), (47, .iload_n 3, 1, 0)],
  [(48, .invokevirtual 103, 3, 3), (51, .aload_n 0, 1, 0), (52, .iload_n 1, 1, 0), (53, .iconst 0, 1, 0), (54, .invokevirtual 103, 3, 3), (57, .isub, 1, 0), (58, .aload_n 0, 1, 0), (59, .iload_n 2, 1, 0), (60, .iload_n 3, 1, 0), (61, .invokevirtual 103, 3, 3)],
  [(64, .aload_n 0, 1, 0), (65, .iload_n 2, 1, 0), (66, .iconst 0, 1, 0), (67, .invokevirtual 103, 3, 3), (70, .isub, 1, 0), (71, .if_icmp .ne 7, 3, 2), (74, .iconst 1, 1, 0), (75, .goto 4, 3, 2), (78, .iconst 0, 1, 0), (79, .ireturn, 1, 6)],
  [(80, .aload_n 0, 1, 0), (81, .iload_n 1, 1, 0), (82, .iload_n 3, 1, 0), (83, .invokevirtual 103, 3, 3), (86, .aload_n 0, 1, 0), (87, .iload_n 2, 1, 0), (88, .iload_n 3, 1, 0), (89, .invokevirtual 103, 3, 3), (92, .if_icmp .ne 7, 3, 2), (95, .iconst 1, 1, 0)],
  [(96, .goto 4, 3, 2), (99, .iconst 0, 1, 0), (100, .istore 5, 2, 0), (102, .aload_n 0, 1, 0), (103, .iload_n 1, 1, 0), (104, .iload_n 3, 1, 0), (105, .invokevirtual 115, 3, 3), (108, .aload_n 0, 1, 0), (109, .iload_n 2, 1, 0), (110, .iload_n 3, 1, 0), (111, .invokevirtual 115, 3, 3)],
  [(114, .if_icmp .ne 7, 3, 2), (117, .iconst 1, 1, 0), (118, .goto 4, 3, 2), (121, .iconst 0, 1, 0), (122, .istore 6, 2, 0), (124, .iload 4, 2, 0), (126, .iconst 2, 1, 0), (127, .if_icmp .eq 8, 3, 2)],
  [(130, .iload 5, 2, 0), (132, .ifCond .eq 18, 3, 2), (135, .iload 4, 2, 0), (137, .iconst 1, 1, 0), (138, .if_icmp .eq 8, 3, 2), (141, .iload 6, 2, 0), (143, .ifCond .eq 7, 3, 2)],
  [(146, .iconst 1, 1, 0), (147, .goto 4, 3, 2), (150, .iconst 0, 1, 0), (151, .ireturn, 1, 6)]]
theorem nn_d44 : ab_dtok prog_8_method_17_code nn_dt44 = true := dw_ok (by decide +kernel)
def nn_dt45 : ab_DT := [[(0, .aload_n 0, 1, 0), (1, .iload_n 1, 1, 0), (2, .invokevirtual 96, 3, 3), (5, .ifCond .eq 23, 3, 2), (8, .iload_n 2, 1, 0), (9, .ifCond .lt 19, 3, 2), (12, .iload_n 2, 1, 0), (13, .aload_n 0, 1, 0), (14, .getfield 18, 3, 1)],
  [(17, .iload_n 1, 1, 0), (18, .invokestatic 92, 3, 3), (21, .if_icmp .ge 7, 3, 2), (24, .iconst 1, 1, 0), (25, .goto 4, 3, 2), (28, .iconst 0, 1, 0), (29, .ireturn, 1, 6)]]
theorem nn_d45 : ab_dtok prog_8_method_10_code nn_dt45 = true := dw_ok (by decide +kernel)
def nn_dt46 : ab_DT := [[(0, .iload_n 1, 1, 0), (1, .ifCond .lt 15, 3, 2), (4, .iload_n 1, 1, 0), (5, .aload_n 0, 1, 0), (6, .getfield 54, 3, 1), (9, .if_icmp .ge 7, 3, 2), (12, .iconst 1, 1, 0), (13, .goto 4, 3, 2)],
  [(16, .iconst 0, 1, 0), (17, .ireturn, 1, 6)]]
theorem nn_d46 : ab_dtok prog_8_method_4_code nn_dt46 = true := dw_ok (by decide +kernel)
def nn_dt47 : ab_DT := [[(0, .aload_n 0, 1, 0), (1, .getfield 9, 3, 1), (4, .iload_n 1, 1, 0), (5, .bipush 9, 2, 0), (7, .imul, 1, 0), (8, .iload_n 2, 1, 0), (9, .iadd, 1, 0), (10, .invokestatic 92, 3, 3), (13, .ireturn, 1, 6)]]
theorem nn_d47 : ab_dtok prog_8_method_11_code nn_dt47 = true := dw_ok (by decide +kernel)
def nn_dt48 : ab_DT := [[(0, .aload_n 0, 1, 0), (1, .getfield 15, 3, 1), (4, .iload_n 1, 1, 0), (5, .bipush 9, 2, 0), (7, .imul, 1, 0), (8, .iload_n 2, 1, 0), (9, .iadd, 1, 0), (10, .invokestatic 92, 3, 3), (13, .ireturn, 1, 6)]]
theorem nn_d48 : ab_dtok prog_8_method_12_code nn_dt48 = true := dw_ok (by decide +kernel)
def nn_dt49 : ab_DT := [[(0, .aload_n 1, 1, 0), (1, .getfield 9, 3, 1), (4, .aload_n 0, 1, 0), (5, .getfield 9, 3, 1), (8, .invokestatic 70, 3, 3), (11, .aload_n 1, 1, 0), (12, .getfield 15, 3, 1), (15, .aload_n 0, 1, 0)],
  [(16, .getfield 15, 3, 1), (19, .invokestatic 70, 3, 3), (22, .aload_n 1, 1, 0), (23, .getfield 18, 3, 1), (26, .aload_n 0, 1, 0), (27, .getfield 18, 3, 1), (30, .invokestatic 70, 3, 3)],
  [(33, .aload_n 1, 1, 0), (34, .getfield 21, 3, 1), (37, .aload_n 0, 1, 0), (38, .getfield 21, 3, 1), (41, .invokestatic 70, 3, 3), (44, .aload_n 1, 1, 0), (45, .getfield 24, 3, 1)],
  [(48, .aload_n 0, 1, 0), (49, .getfield 24, 3, 1), (52, .invokestatic 70, 3, 3), (55, .aload_n 1, 1, 0), (56, .getfield 27, 3, 1), (59, .aload_n 0, 1, 0), (60, .getfield 27, 3, 1), (63, .invokestatic 70, 3, 3)],
  [(66, .aload_n 1, 1, 0), (67, .getfield 30, 3, 1), (70, .aload_n 0, 1, 0), (71, .getfield 30, 3, 1), (74, .invokestatic 70, 3, 3), (77, .aload_n 1, 1, 0), (78, .getfield 33, 3, 1)],
  [(81, .aload_n 0, 1, 0), (82, .getfield 33, 3, 1), (85, .invokestatic 74, 3, 3), (88, .aload_n 1, 1, 0), (89, .getfield 37, 3, 1), (92, .aload_n 0, 1, 0), (93, .getfield 37, 3, 1)],
  [(96, .invokestatic 74, 3, 3), (99, .aload_n 1, 1, 0), (100, .getfield 40, 3, 1), (103, .aload_n 0, 1, 0), (104, .getfield 40, 3, 1), (107, .invokestatic 74, 3, 3), (110, .aload_n 0, 1, 0), (111, .getfield 46, 3, 1)],
  [(114, .aload_n 1, 1, 0), (115, .getfield 46, 3, 1), (118, .invokevirtual 77, 3, 3), (121, .aload_n 0, 1, 0), (122, .aload_n 1, 1, 0), (123, .getfield 54, 3, 1), (126, .putfield 54, 3, 1)],
  [(129, .aload_n 0, 1, 0), (130, .aload_n 1, 1, 0), (131, .getfield 57, 3, 1), (134, .putfield 57, 3, 1), (137, .aload_n 0, 1, 0), (138, .aload_n 1, 1, 0), (139, .getfield 60, 3, 1), (142, .putfield 60, 3, 1)],
  [(145, .aload_n 0, 1, 0), (146, .aload_n 1, 1, 0), (147, .getfield 50, 3, 1), (150, .putfield 50, 3, 1), (153, .aload_n 0, 1, 0), (154, .aload_n 1, 1, 0), (155, .getfield 81, 3, 1), (158, .putfield 81, 3, 1)],
  [(161, .return_, 1, 6)]]
theorem nn_d49 : ab_dtok prog_8_method_3_code nn_dt49 = true := dw_ok (by decide +kernel)
def nn_dt50 : ab_DT := [[(0, .iconst 0, 1, 0), (1, .istore_n 2, 1, 0), (2, .iload_n 2, 1, 0), (3, .aload_n 0, 1, 0), (4, .arraylength, 1, 1), (5, .if_icmp .ge 21, 3, 2), (8, .iload_n 2, 1, 0), (9, .aload_n 1, 1, 0), (10, .arraylength, 1, 1), (11, .if_icmp .ge 15, 3, 2), (14, .aload_n 1, 1, 0), (15, .iload_n 2, 1, 0)],
  [(16, .aload_n 0, 1, 0), (17, .iload_n 2, 1, 0), (18, .iaload, 1, 1), (19, .iastore, 1, 1), (20, .iinc 2 1, 3, 0), (23, .goto (-21), 3, 2), (26, .return_, 1, 6)]]
theorem nn_d50 : ab_dtok prog_1_method_88_code nn_dt50 = true := dw_ok (by decide +kernel)
def nn_dt51 : ab_DT := [[(0, .iconst 0, 1, 0), (1, .istore_n 2, 1, 0), (2, .iload_n 2, 1, 0), (3, .aload_n 0, 1, 0), (4, .arraylength, 1, 1), (5, .if_icmp .ge 21, 3, 2), (8, .iload_n 2, 1, 0), (9, .aload_n 1, 1, 0), (10, .arraylength, 1, 1), (11, .if_icmp .ge 15, 3, 2), (14, .aload_n 1, 1, 0), (15, .iload_n 2, 1, 0)],
  [(16, .aload_n 0, 1, 0), (17, .iload_n 2, 1, 0), (18, .laload, 1, 1), (19, .lastore, 1, 1), (20, .iinc 2 1, 3, 0), (23, .goto (-21), 3, 2), (26, .return_, 1, 6)]]
theorem nn_d51 : ab_dtok prog_1_method_89_code nn_dt51 = true := dw_ok (by decide +kernel)
def nn_dt52 : ab_DT := [[(0, .aload_n 1, 1, 0), (1, .getfield 11, 3, 1), (4, .aload_n 0, 1, 0), (5, .getfield 11, 3, 1), (8, .invokestatic 28, 3, 3), (11, .aload_n 1, 1, 0), (12, .getfield 15, 3, 1), (15, .aload_n 0, 1, 0)],
  [(16, .getfield 15, 3, 1), (19, .invokestatic 28, 3, 3), (22, .aload_n 0, 1, 0), (23, .aload_n 1, 1, 0), (24, .getfield 21, 3, 1), (27, .putfield 21, 3, 1), (30, .aload_n 0, 1, 0), (31, .aload_n 1, 1, 0)],
  [(32, .getfield 25, 3, 1), (35, .putfield 25, 3, 1), (38, .return_, 1, 6)]]
theorem nn_d52 : ab_dtok prog_7_method_3_code nn_dt52 = true := dw_ok (by decide +kernel)
def nn_dt53 : ab_DT := [[(0, .aload_n 0, 1, 0), (1, .getfield 10, 3, 1), (4, .getfield 139, 3, 1), (7, .ireturn, 1, 6)]]
theorem nn_d53 : ab_dtok prog_1_method_5_code nn_dt53 = true := dw_ok (by decide +kernel)
def nn_dt54 : ab_DT := [[(0, .aload_n 0, 1, 0), (1, .getfield 19, 3, 1), (4, .iload_n 1, 1, 0), (5, .iload_n 2, 1, 0), (6, .invokevirtual 142, 3, 3), (9, .ifCond .eq 10, 3, 2), (12, .iload_n 3, 1, 0), (13, .invokestatic 146, 3, 3)],
  [(16, .ifCond .ne 5, 3, 2), (19, .iconst (-1), 1, 0), (20, .ireturn, 1, 6), (21, .iload_n 3, 1, 0), (22, .ifCond .ne 15, 3, 2), (25, .aload_n 0, 1, 0), (26, .getfield 19, 3, 1), (29, .iload_n 1, 1, 0), (30, .iload_n 2, 1, 0), (31, .invokevirtual 150, 3, 3)],
  [(34, .goto 12, 3, 2), (37, .aload_n 0, 1, 0), (38, .getfield 19, 3, 1), (41, .iload_n 1, 1, 0), (42, .iload_n 2, 1, 0), (43, .invokevirtual 154, 3, 3), (46, .ireturn, 1, 6)]]
theorem nn_d54 : ab_dtok prog_1_method_6_code nn_dt54 = true := dw_ok (by decide +kernel)
def nn_dt55 : ab_DT := [[(0, .iload_n 0, 1, 0), (1, .ifCond .eq 8, 3, 2), (4, .iload_n 0, 1, 0), (5, .iconst 1, 1, 0), (6, .if_icmp .ne 7, 3, 2), (9, .iconst 1, 1, 0), (10, .goto 4, 3, 2), (13, .iconst 0, 1, 0), (14, .ireturn, 1, 6)]]
theorem nn_d55 : ab_dtok prog_1_method_77_code nn_dt55 = true := dw_ok (by decide +kernel)
def nn_dt56 : ab_DT := [[(0, .aload_n 0, 1, 0), (1, .getfield 19, 3, 1), (4, .iload_n 1, 1, 0), (5, .invokevirtual 157, 3, 3), (8, .ifCond .eq 22, 3, 2), (11, .iload_n 2, 1, 0), (12, .invokestatic 160, 3, 3), (15, .ifCond .eq 15, 3, 2)],
  [(18, .aload_n 0, 1, 0), (19, .getfield 19, 3, 1), (22, .iload_n 1, 1, 0), (23, .iload_n 2, 1, 0), (24, .invokevirtual 163, 3, 3), (27, .goto 4, 3, 2), (30, .iconst (-1), 1, 0), (31, .ireturn, 1, 6)]]
theorem nn_d56 : ab_dtok prog_1_method_7_code nn_dt56 = true := dw_ok (by decide +kernel)
def nn_dt57 : ab_DT := [[(0, .iload_n 0, 1, 0), (1, .ifCond .lt 12, 3, 2), (4, .iload_n 0, 1, 0), (5, .iconst 4, 1, 0), (6, .if_icmp .ge 7, 3, 2), (9, .iconst 1, 1, 0), (10, .goto 4, 3, 2), (13, .iconst 0, 1, 0), (14, .ireturn, 1, 6)]]
theorem nn_d57 : ab_dtok prog_1_method_74_code nn_dt57 = true := dw_ok (by decide +kernel)
def nn_dt58 : ab_DT := [[(0, .aload_n 0, 1, 0), (1, .getfield 18, 3, 1), (4, .iload_n 1, 1, 0), (5, .invokestatic 92, 3, 3), (8, .istore_n 3, 1, 0), (9, .iconst 0, 1, 0), (10, .istore 4, 2, 0), (12, .bipush 24, 2, 0), (14, .istore 5, 2, 0)],
  [(16, .iconst 0, 1, 0), (17, .istore 6, 2, 0), (19, .iconst 0, 1, 0), (20, .istore 7, 2, 0), (22, .iload 7, 2, 0), (24, .iload_n 3, 1, 0), (25, .if_icmp .ge 49, 3, 2), (28, .iload 4, 2, 0), (30, .aload_n 0, 1, 0), (31, .iload_n 1, 1, 0)],
  [(32, .iload 7, 2, 0), (34, .invokevirtual 103, 3, 3), (37, .invokestatic 107, 3, 3), (40, .istore 4, 2, 0), (42, .iload 5, 2, 0), (44, .aload_n 0, 1, 0), (45, .iload_n 1, 1, 0), (46, .iload 7, 2, 0)],
  [(48, .invokevirtual 103, 3, 3), (51, .invokestatic 112, 3, 3), (54, .istore 5, 2, 0), (56, .iload 6, 2, 0), (58, .aload_n 0, 1, 0), (59, .iload_n 1, 1, 0), (60, .iload 7, 2, 0), (62, .invokevirtual 115, 3, 3)],
  [(65, .iadd, 1, 0), (66, .istore 6, 2, 0), (68, .iinc 7 1, 3, 0), (71, .goto (-49), 3, 2), (74, .iload_n 2, 1, 0), (75, .ifCond .ne 5, 3, 2), (78, .iload_n 3, 1, 0), (79, .ireturn, 1, 6)],
  [(80, .iload_n 2, 1, 0), (81, .iconst 1, 1, 0), (82, .if_icmp .ne 6, 3, 2), (85, .iload 4, 2, 0), (87, .ireturn, 1, 6), (88, .iload_n 2, 1, 0), (89, .iconst 2, 1, 0), (90, .if_icmp .ne 8, 3, 2), (93, .iload 5, 2, 0), (95, .goto 5, 3, 2)],
  [(98, .iload 6, 2, 0), (100, .ireturn, 1, 6)]]
theorem nn_d58 : ab_dtok prog_8_method_15_code nn_dt58 = true := dw_ok (by decide +kernel)
def nn_dt59 : ab_DT := [[(0, .iload_n 0, 1, 0), (1, .iload_n 1, 1, 0), (2, .if_icmp .lt 7, 3, 2), (5, .iload_n 0, 1, 0), (6, .goto 4, 3, 2), (9, .iload_n 1, 1, 0), (10, .ireturn, 1, 6)]]
theorem nn_d59 : ab_dtok prog_21_method_65_code nn_dt59 = true := dw_ok (by decide +kernel)
def nn_dt60 : ab_DT := [[(0, .iload_n 0, 1, 0), (1, .iload_n 1, 1, 0), (2, .if_icmp .gt 7, 3, 2), (5, .iload_n 0, 1, 0), (6, .goto 4, 3, 2), (9, .iload_n 1, 1, 0), (10, .ireturn, 1, 6)]]
theorem nn_d60 : ab_dtok prog_21_method_69_code nn_dt60 = true := dw_ok (by decide +kernel)
def nn_dt61 : ab_DT := [[(0, .aload_n 0, 1, 0), (1, .getfield 19, 3, 1), (4, .iload_n 1, 1, 0), (5, .iload_n 2, 1, 0), (6, .invokevirtual 142, 3, 3), (9, .ifCond .ne 5, 3, 2), (12, .iconst (-1), 1, 0), (13, .ireturn, 1, 6), (14, .iconst 0, 1, 0), (15, .istore_n 3, 1, 0)],
  [(16, .iconst 0, 1, 0), (17, .istore 4, 2, 0), (19, .iload 4, 2, 0), (21, .iload_n 2, 1, 0), (22, .if_icmp .ge 22, 3, 2), (25, .iload_n 3, 1, 0), (26, .aload_n 0, 1, 0), (27, .getfield 19, 3, 1), (30, .iload_n 1, 1, 0), (31, .iload 4, 2, 0)],
  [(33, .invokevirtual 154, 3, 3), (36, .iadd, 1, 0), (37, .istore_n 3, 1, 0), (38, .iinc 4 1, 3, 0), (41, .goto (-22), 3, 2), (44, .iload_n 3, 1, 0), (45, .ireturn, 1, 6)]]
theorem nn_d61 : ab_dtok prog_1_method_8_code nn_dt61 = true := dw_ok (by decide +kernel)
def nn_dt62 : ab_DT := [[(0, .aload_n 0, 1, 0), (1, .getfield 19, 3, 1), (4, .iload_n 1, 1, 0), (5, .invokevirtual 166, 3, 3), (8, .ifCond .eq 14, 3, 2), (11, .aload_n 0, 1, 0), (12, .getfield 19, 3, 1), (15, .iload_n 1, 1, 0)],
  [(16, .invokevirtual 169, 3, 3), (19, .goto 4, 3, 2), (22, .iconst (-1), 1, 0), (23, .ireturn, 1, 6)]]
theorem nn_d62 : ab_dtok prog_1_method_9_code nn_dt62 = true := dw_ok (by decide +kernel)
def nn_dt63 : ab_DT := [[(0, .iload_n 1, 1, 0), (1, .ifCond .lt 15, 3, 2), (4, .iload_n 1, 1, 0), (5, .aload_n 0, 1, 0), (6, .getfield 57, 3, 1), (9, .if_icmp .ge 7, 3, 2), (12, .iconst 1, 1, 0), (13, .goto 4, 3, 2)],
  [(16, .iconst 0, 1, 0), (17, .ireturn, 1, 6)]]
theorem nn_d63 : ab_dtok prog_8_method_5_code nn_dt63 = true := dw_ok (by decide +kernel)
def nn_dt64 : ab_DT := [[(0, .iload_n 1, 1, 0), (1, .iconst (-1), 1, 0), (2, .if_icmp .ne 10, 3, 2), (5, .aload_n 0, 1, 0), (6, .invokevirtual 88, 3, 3), (9, .goto 11, 3, 2), (12, .aload_n 0, 1, 0), (13, .getfield 24, 3, 1)],
  [(16, .iload_n 1, 1, 0), (17, .invokestatic 92, 3, 3), (20, .ireturn, 1, 6)]]
theorem nn_d64 : ab_dtok prog_8_method_8_code nn_dt64 = true := dw_ok (by decide +kernel)
def nn_dt65 : ab_DT := [[(0, .iconst 1, 1, 0), (1, .aload_n 0, 1, 0), (2, .getfield 54, 3, 1), (5, .ishl, 1, 0), (6, .iconst 1, 1, 0), (7, .isub, 1, 0), (8, .ireturn, 1, 6)]]
theorem nn_d65 : ab_dtok prog_8_method_9_code nn_dt65 = true := dw_ok (by decide +kernel)
def nn_dt66 : ab_DT := [[(0, .aload_n 0, 1, 0), (1, .getfield 19, 3, 1), (4, .iload_n 1, 1, 0), (5, .invokevirtual 173, 3, 3), (8, .ifCond .eq 26, 3, 2), (11, .aload_n 0, 1, 0), (12, .getfield 19, 3, 1), (15, .iload_n 2, 1, 0)],
  [(16, .invokevirtual 157, 3, 3), (19, .ifCond .eq 15, 3, 2), (22, .aload_n 0, 1, 0), (23, .getfield 19, 3, 1), (26, .iload_n 1, 1, 0), (27, .iload_n 2, 1, 0), (28, .invokevirtual 176, 3, 3), (31, .goto 4, 3, 2)],
  [(34, .iconst (-1), 1, 0), (35, .ireturn, 1, 6)]]
theorem nn_d66 : ab_dtok prog_1_method_10_code nn_dt66 = true := dw_ok (by decide +kernel)
def nn_dt67 : ab_DT := [[(0, .iload_n 1, 1, 0), (1, .ifCond .lt 15, 3, 2), (4, .iload_n 1, 1, 0), (5, .aload_n 0, 1, 0), (6, .getfield 60, 3, 1), (9, .if_icmp .ge 7, 3, 2), (12, .iconst 1, 1, 0), (13, .goto 4, 3, 2)],
  [(16, .iconst 0, 1, 0), (17, .ireturn, 1, 6)]]
theorem nn_d67 : ab_dtok prog_8_method_6_code nn_dt67 = true := dw_ok (by decide +kernel)
def nn_dt68 : ab_DT := [[(0, .aload_n 0, 1, 0), (1, .getfield 27, 3, 1), (4, .iload_n 1, 1, 0), (5, .bipush 9, 2, 0), (7, .imul, 1, 0), (8, .iload_n 2, 1, 0), (9, .iadd, 1, 0), (10, .invokestatic 92, 3, 3), (13, .ireturn, 1, 6)]]
theorem nn_d68 : ab_dtok prog_8_method_13_code nn_dt68 = true := dw_ok (by decide +kernel)
def nn_dt69 : ab_DT := [[(0, .aload_n 0, 1, 0), (1, .getfield 19, 3, 1), (4, .iload_n 1, 1, 0), (5, .invokevirtual 173, 3, 3), (8, .ifCond .eq 17, 3, 2), (11, .aload_n 0, 1, 0), (12, .getfield 19, 3, 1), (15, .getfield 179, 3, 1)],
  [(18, .iload_n 1, 1, 0), (19, .invokestatic 180, 3, 3), (22, .goto 4, 3, 2), (25, .iconst (-1), 1, 0), (26, .ireturn, 1, 6)]]
theorem nn_d69 : ab_dtok prog_1_method_11_code nn_dt69 = true := dw_ok (by decide +kernel)
def nn_dt70 : ab_DT := [[(0, .aload_n 0, 1, 0), (1, .getfield 19, 3, 1), (4, .iload_n 1, 1, 0), (5, .invokevirtual 157, 3, 3), (8, .ifCond .eq 29, 3, 2), (11, .iload_n 2, 1, 0), (12, .invokestatic 184, 3, 3), (15, .ifCond .eq 22, 3, 2)],
  [(18, .iload_n 3, 1, 0), (19, .invokestatic 187, 3, 3), (22, .ifCond .eq 15, 3, 2), (25, .aload_n 0, 1, 0), (26, .getfield 19, 3, 1), (29, .iload 4, 2, 0), (31, .invokevirtual 190, 3, 3)],
  [(34, .ifCond .ne 5, 3, 2), (37, .iconst (-1), 1, 0), (38, .ireturn, 1, 6), (39, .aload_n 0, 1, 0), (40, .getfield 19, 3, 1), (43, .iload_n 1, 1, 0), (44, .iload_n 2, 1, 0), (45, .iload_n 3, 1, 0), (46, .aload_n 0, 1, 0), (47, .getfield 19, 3, 1)],
  [(50, .iload 4, 2, 0), (52, .invokevirtual 169, 3, 3), (55, .invokevirtual 193, 3, 3), (58, .ireturn, 1, 6)]]
theorem nn_d70 : ab_dtok prog_1_method_12_code nn_dt70 = true := dw_ok (by decide +kernel)
def nn_dt71 : ab_DT := [[(0, .iload_n 0, 1, 0), (1, .iconst 1, 1, 0), (2, .if_icmp .lt 13, 3, 2), (5, .iload_n 0, 1, 0), (6, .bipush 9, 2, 0), (8, .if_icmp .gt 7, 3, 2), (11, .iconst 1, 1, 0), (12, .goto 4, 3, 2), (15, .iconst 0, 1, 0)],
  [(16, .ireturn, 1, 6)]]
theorem nn_d71 : ab_dtok prog_1_method_72_code nn_dt71 = true := dw_ok (by decide +kernel)
def nn_dt72 : ab_DT := [[(0, .iload_n 0, 1, 0), (1, .ifCond .lt 12, 3, 2), (4, .iload_n 0, 1, 0), (5, .iconst 4, 1, 0), (6, .if_icmp .ge 7, 3, 2), (9, .iconst 1, 1, 0), (10, .goto 4, 3, 2), (13, .iconst 0, 1, 0), (14, .ireturn, 1, 6)]]
theorem nn_d72 : ab_dtok prog_1_method_73_code nn_dt72 = true := dw_ok (by decide +kernel)
def nn_dt73 : ab_DT := [[(0, .iload_n 1, 1, 0), (1, .iconst (-1), 1, 0), (2, .if_icmp .eq 11, 3, 2), (5, .aload_n 0, 1, 0), (6, .iload_n 1, 1, 0), (7, .invokevirtual 84, 3, 3), (10, .ifCond .eq 7, 3, 2), (13, .iconst 1, 1, 0), (14, .goto 4, 3, 2)],
  [(17, .iconst 0, 1, 0), (18, .ireturn, 1, 6)]]
theorem nn_d73 : ab_dtok prog_8_method_7_code nn_dt73 = true := dw_ok (by decide +kernel)
def nn_dt74 : ab_DT := [[(0, .iconst 0, 1, 0), (1, .istore 5, 2, 0), (3, .iconst 0, 1, 0), (4, .istore 6, 2, 0), (6, .iload 6, 2, 0), (8, .aload_n 0, 1, 0), (9, .getfield 54, 3, 1), (12, .if_icmp .ge 40, 3, 2), (15, .iload 4, 2, 0)],
  [(17, .iload 6, 2, 0), (19, .invokestatic 133, 3, 3), (22, .ifCond .eq 24, 3, 2), (25, .aload_n 0, 1, 0), (26, .iload_n 1, 1, 0), (27, .iload 6, 2, 0), (29, .iload_n 3, 1, 0), (30, .invokevirtual 136, 3, 3)],
  [(33, .iload_n 2, 1, 0), (34, .if_icmp .lt 12, 3, 2), (37, .iload 5, 2, 0), (39, .iconst 1, 1, 0), (40, .iload 6, 2, 0), (42, .ishl, 1, 0), (43, .ior, 1, 0), (44, .istore 5, 2, 0), (46, .iinc 6 1, 3, 0)],
  [(49, .goto (-43), 3, 2), (52, .iload 5, 2, 0), (54, .ireturn, 1, 6)]]
theorem nn_d74 : ab_dtok prog_8_method_23_code nn_dt74 = true := dw_ok (by decide +kernel)
def nn_dt75 : ab_DT := [[(0, .aload_n 0, 1, 0), (1, .getfield 21, 3, 1), (4, .iload_n 1, 1, 0), (5, .iload_n 2, 1, 0), (6, .iload_n 3, 1, 0), (7, .invokestatic 122, 3, 3), (10, .invokestatic 92, 3, 3), (13, .ireturn, 1, 6)]]
theorem nn_d75 : ab_dtok prog_8_method_22_code nn_dt75 = true := dw_ok (by decide +kernel)
def nn_dt76 : ab_DT := [[(0, .iload_n 1, 1, 0), (1, .invokestatic 184, 3, 3), (4, .ifCond .eq 21, 3, 2), (7, .iload_n 2, 1, 0), (8, .invokestatic 187, 3, 3), (11, .ifCond .eq 14, 3, 2), (14, .aload_n 0, 1, 0), (15, .getfield 19, 3, 1)],
  [(18, .iload_n 3, 1, 0), (19, .invokevirtual 190, 3, 3), (22, .ifCond .ne 5, 3, 2), (25, .iconst (-1), 1, 0), (26, .ireturn, 1, 6), (27, .aload_n 0, 1, 0), (28, .getfield 19, 3, 1), (31, .iload_n 3, 1, 0)],
  [(32, .invokevirtual 169, 3, 3), (35, .istore 4, 2, 0), (37, .iconst 0, 1, 0), (38, .istore 5, 2, 0), (40, .iconst 0, 1, 0), (41, .istore 6, 2, 0), (43, .iload 6, 2, 0), (45, .bipush 9, 2, 0), (47, .if_icmp .ge 43, 3, 2)],
  [(50, .iload 4, 2, 0), (52, .iload 6, 2, 0), (54, .invokestatic 197, 3, 3), (57, .ifCond .eq 27, 3, 2), (60, .aload_n 0, 1, 0), (61, .getfield 19, 3, 1)],
  [(64, .iload 6, 2, 0), (66, .iload_n 1, 1, 0), (67, .iload_n 2, 1, 0), (68, .iload 4, 2, 0), (70, .invokevirtual 193, 3, 3), (73, .iload 6, 2, 0), (75, .invokestatic 200, 3, 3), (78, .ifCond .eq 6, 3, 2)],
  [(81, .iinc 5 1, 3, 0), (84, .iinc 6 1, 3, 0), (87, .goto (-44), 3, 2), (90, .iload 5, 2, 0), (92, .ireturn, 1, 6)]]
theorem nn_d76 : ab_dtok prog_1_method_13_code nn_dt76 = true := dw_ok (by decide +kernel)
def nn_dt77 : ab_DT := [[(0, .iload_n 0, 1, 0), (1, .iload_n 0, 1, 0), (2, .ineg, 1, 0), (3, .iand, 1, 0), (4, .iconst 1, 1, 0), (5, .iload_n 1, 1, 0), (6, .ishl, 1, 0), (7, .if_icmp .ne 7, 3, 2), (10, .iconst 1, 1, 0), (11, .goto 4, 3, 2), (14, .iconst 0, 1, 0), (15, .ireturn, 1, 6)]]
theorem nn_d77 : ab_dtok prog_1_method_81_code nn_dt77 = true := dw_ok (by decide +kernel)
def nn_dt78 : ab_DT := [[(0, .aload_n 0, 1, 0), (1, .getfield 19, 3, 1), (4, .iload_n 1, 1, 0), (5, .invokevirtual 157, 3, 3), (8, .ifCond .eq 36, 3, 2), (11, .iload_n 2, 1, 0), (12, .invokestatic 187, 3, 3), (15, .ifCond .eq 29, 3, 2)],
  [(18, .aload_n 0, 1, 0), (19, .getfield 19, 3, 1), (22, .iload_n 3, 1, 0), (23, .invokevirtual 190, 3, 3), (26, .ifCond .eq 18, 3, 2), (29, .aload_n 0, 1, 0), (30, .getfield 19, 3, 1)],
  [(33, .iload_n 3, 1, 0), (34, .invokevirtual 169, 3, 3), (37, .iload_n 1, 1, 0), (38, .invokestatic 197, 3, 3), (41, .ifCond .ne 5, 3, 2), (44, .iconst (-1), 1, 0), (45, .ireturn, 1, 6), (46, .aload_n 0, 1, 0), (47, .getfield 19, 3, 1)],
  [(50, .iload_n 1, 1, 0), (51, .iload_n 2, 1, 0), (52, .aload_n 0, 1, 0), (53, .getfield 19, 3, 1), (56, .iload_n 3, 1, 0), (57, .invokevirtual 169, 3, 3), (60, .invokevirtual 203, 3, 3), (63, .ireturn, 1, 6)]]
theorem nn_d78 : ab_dtok prog_1_method_14_code nn_dt78 = true := dw_ok (by decide +kernel)
def nn_dt79 : ab_DT := [[(0, .iconst 1, 1, 0), (1, .istore 4, 2, 0), (3, .iload 4, 2, 0), (5, .bipush 9, 2, 0), (7, .if_icmp .gt 27, 3, 2), (10, .aload_n 0, 1, 0), (11, .iload_n 1, 1, 0), (12, .iload 4, 2, 0), (14, .iload_n 2, 1, 0), (15, .iload_n 3, 1, 0)],
  [(16, .invokevirtual 139, 3, 3), (19, .iconst 1, 1, 0), (20, .iload_n 1, 1, 0), (21, .ishl, 1, 0), (22, .if_icmp .ne 6, 3, 2), (25, .iload 4, 2, 0), (27, .ireturn, 1, 6), (28, .iinc 4 1, 3, 0), (31, .goto (-28), 3, 2)],
  [(34, .iconst (-1), 1, 0), (35, .ireturn, 1, 6)]]
theorem nn_d79 : ab_dtok prog_8_method_24_code nn_dt79 = true := dw_ok (by decide +kernel)
def nn_DT_40 : List ab_DT := [nn_dt40, nn_dt41, nn_dt42, nn_dt43, nn_dt44, nn_dt45, nn_dt46, nn_dt47, nn_dt48, nn_dt49, nn_dt50, nn_dt51, nn_dt52, nn_dt53, nn_dt54, nn_dt55, nn_dt56, nn_dt57, nn_dt58, nn_dt59, nn_dt60, nn_dt61, nn_dt62, nn_dt63, nn_dt64, nn_dt65, nn_dt66, nn_dt67, nn_dt68, nn_dt69, nn_dt70, nn_dt71, nn_dt72, nn_dt73, nn_dt74, nn_dt75, nn_dt76, nn_dt77, nn_dt78, nn_dt79]
theorem nn_DT_40_ok : ab_dtP nn_MT_40 nn_DT_40 := ⟨nn_d40, nn_d41, nn_d42, nn_d43, nn_d44, nn_d45, nn_d46, nn_d47, nn_d48, nn_d49, nn_d50, nn_d51, nn_d52, nn_d53, nn_d54, nn_d55, nn_d56, nn_d57, nn_d58, nn_d59, nn_d60, nn_d61, nn_d62, nn_d63, nn_d64, nn_d65, nn_d66, nn_d67, nn_d68, nn_d69, nn_d70, nn_d71, nn_d72, nn_d73, nn_d74, nn_d75, nn_d76, nn_d77, nn_d78, nn_d79, trivial⟩
end
section
def nn_dt80 : ab_DT := [[(0, .aload_n 0, 1, 0), (1, .getfield 19, 3, 1), (4, .iload_n 1, 1, 0), (5, .invokevirtual 173, 3, 3), (8, .ifCond .eq 21, 3, 2), (11, .iload_n 2, 1, 0), (12, .invokestatic 232, 3, 3), (15, .ifCond .eq 14, 3, 2)],
  [(18, .aload_n 0, 1, 0), (19, .getfield 19, 3, 1), (22, .iload_n 3, 1, 0), (23, .invokevirtual 166, 3, 3), (26, .ifCond .ne 5, 3, 2), (29, .iconst (-1), 1, 0), (30, .ireturn, 1, 6), (31, .iconst 1, 1, 0)],
  [(32, .istore 4, 2, 0), (34, .iload 4, 2, 0), (36, .bipush 9, 2, 0), (38, .if_icmp .gt 34, 3, 2), (41, .aload_n 0, 1, 0), (42, .iload_n 1, 1, 0), (43, .iload 4, 2, 0), (45, .aload_n 0, 1, 0), (46, .getfield 19, 3, 1)],
  [(49, .iload_n 3, 1, 0), (50, .invokevirtual 169, 3, 3), (53, .invokevirtual 228, 3, 3), (56, .iload_n 2, 1, 0), (57, .invokestatic 235, 3, 3), (60, .ifCond .eq 6, 3, 2), (63, .iload 4, 2, 0)],
  [(65, .ireturn, 1, 6), (66, .iinc 4 1, 3, 0), (69, .goto (-35), 3, 2), (72, .iconst (-1), 1, 0), (73, .ireturn, 1, 6)]]
theorem nn_d80 : ab_dtok prog_1_method_17_code nn_dt80 = true := dw_ok (by decide +kernel)
def nn_dt81 : ab_DT := [[(0, .iload_n 0, 1, 0), (1, .ifCond .lt 13, 3, 2), (4, .iload_n 0, 1, 0), (5, .bipush 9, 2, 0), (7, .if_icmp .gt 7, 3, 2), (10, .iconst 1, 1, 0), (11, .goto 4, 3, 2), (14, .iconst 0, 1, 0), (15, .ireturn, 1, 6)]]
theorem nn_d81 : ab_dtok prog_1_method_75_code nn_dt81 = true := dw_ok (by decide +kernel)
def nn_dt82 : ab_DT := [[(0, .aload_n 0, 1, 0), (1, .getfield 55, 3, 1), (4, .aload_n 0, 1, 0), (5, .getfield 19, 3, 1), (8, .iload_n 2, 1, 0), (9, .iload_n 3, 1, 0), (10, .invokevirtual 320, 3, 3), (13, .aload_n 0, 1, 0), (14, .getfield 55, 3, 1)],
  [(17, .aload_n 0, 1, 0), (18, .getfield 19, 3, 1), (21, .iload_n 1, 1, 0), (22, .iconst 0, 1, 0), (23, .invokevirtual 329, 3, 3), (26, .aload_n 0, 1, 0), (27, .getfield 55, 3, 1), (30, .invokevirtual 332, 3, 3)],
  [(33, .lreturn, 1, 6)]]
theorem nn_d82 : ab_dtok prog_1_method_65_code nn_dt82 = true := dw_ok (by decide +kernel)
def nn_dt83 : ab_DT := [[(0, .aload_n 0, 1, 0), (1, .iload_n 3, 1, 0), (2, .putfield 22, 3, 1), (5, .iconst 0, 1, 0), (6, .istore 4, 2, 0), (8, .iload 4, 2, 0), (10, .aload_n 0, 1, 0), (11, .getfield 15, 3, 1), (14, .arraylength, 1, 1), (15, .if_icmp .ge 38, 3, 2)],
  [(18, .aload_n 0, 1, 0), (19, .getfield 15, 3, 1), (22, .iload 4, 2, 0), (24, .iload_n 3, 1, 0), (25, .iload 4, 2, 0), (27, .invokestatic 26, 3, 3), (30, .ifCond .eq 15, 3, 2)],
  [(33, .aload_n 1, 1, 0), (34, .iload 4, 2, 0), (36, .iload_n 2, 1, 0), (37, .iconst 0, 1, 0), (38, .iload_n 3, 1, 0), (39, .invokevirtual 30, 3, 3), (42, .goto 4, 3, 2), (45, .iconst 0, 1, 0), (46, .iastore, 1, 1), (47, .iinc 4 1, 3, 0)],
  [(50, .goto (-42), 3, 2), (53, .return_, 1, 6)]]
theorem nn_d83 : ab_dtok prog_3_method_2_code nn_dt83 = true := dw_ok (by decide +kernel)
def nn_dt84 : ab_DT := [[(0, .iconst 0, 1, 0), (1, .istore 4, 2, 0), (3, .iload 4, 2, 0), (5, .aload_n 0, 1, 0), (6, .getfield 9, 3, 1), (9, .arraylength, 1, 1), (10, .if_icmp .ge 37, 3, 2), (13, .aload_n 0, 1, 0), (14, .getfield 9, 3, 1)],
  [(17, .iload 4, 2, 0), (19, .iload_n 3, 1, 0), (20, .iload 4, 2, 0), (22, .invokestatic 26, 3, 3), (25, .ifCond .eq 8, 3, 2), (28, .bipush 9, 2, 0), (30, .goto 10, 3, 2)],
  [(33, .aload_n 1, 1, 0), (34, .iload_n 2, 1, 0), (35, .iload 4, 2, 0), (37, .invokevirtual 36, 3, 3), (40, .iastore, 1, 1), (41, .iinc 4 1, 3, 0), (44, .goto (-41), 3, 2), (47, .return_, 1, 6)]]
theorem nn_d84 : ab_dtok prog_3_method_3_code nn_dt84 = true := dw_ok (by decide +kernel)
def nn_dt85 : ab_DT := [[(0, .lconst 0, 1, 0), (1, .lstore_n 1, 1, 0), (2, .iconst 0, 1, 0), (3, .istore_n 3, 1, 0), (4, .iload_n 3, 1, 0), (5, .aload_n 0, 1, 0), (6, .getfield 15, 3, 1), (9, .arraylength, 1, 1), (10, .if_icmp .ge 46, 3, 2), (13, .aload_n 0, 1, 0), (14, .getfield 22, 3, 1)],
  [(17, .iload_n 3, 1, 0), (18, .invokestatic 26, 3, 3), (21, .ifCond .eq 29, 3, 2), (24, .aload_n 0, 1, 0), (25, .getfield 15, 3, 1), (28, .iload_n 3, 1, 0), (29, .iaload, 1, 1), (30, .iload_n 3, 1, 0), (31, .invokestatic 57, 3, 3)],
  [(34, .ifCond .eq 16, 3, 2), (37, .lload_n 1, 1, 0), (38, .aload_n 0, 1, 0), (39, .aload_n 0, 1, 0), (40, .getfield 15, 3, 1), (43, .iload_n 3, 1, 0), (44, .iaload, 1, 1), (45, .invokevirtual 60, 3, 3)],
  [(48, .ladd, 1, 0), (49, .lstore_n 1, 1, 0), (50, .iinc 3 1, 3, 0), (53, .goto (-49), 3, 2), (56, .lload_n 1, 1, 0), (57, .getstatic 48, 3, 4), (60, .aload_n 0, 1, 0), (61, .getfield 22, 3, 1)],
  [(64, .invokestatic 64, 3, 3), (67, .iconst 1, 1, 0), (68, .isub, 1, 0), (69, .invokestatic 40, 3, 3), (72, .i2l, 1, 0), (73, .lmul, 1, 0), (74, .lreturn, 1, 6)]]
theorem nn_d85 : ab_dtok prog_3_method_6_code nn_dt85 = true := dw_ok (by decide +kernel)
def nn_dt86 : ab_DT := [[(0, .lconst 1, 1, 0), (1, .lstore_n 2, 1, 0), (2, .iconst 0, 1, 0), (3, .istore 4, 2, 0), (5, .iconst 0, 1, 0), (6, .istore 5, 2, 0), (8, .iload 5, 2, 0), (10, .aload_n 0, 1, 0), (11, .getfield 9, 3, 1), (14, .arraylength, 1, 1), (15, .if_icmp .ge 35, 3, 2)],
  [(18, .iload_n 1, 1, 0), (19, .iload 5, 2, 0), (21, .invokestatic 26, 3, 3), (24, .ifCond .eq 20, 3, 2), (27, .lload_n 2, 1, 0), (28, .bipush 9, 2, 0), (30, .aload_n 0, 1, 0), (31, .getfield 9, 3, 1)],
  [(34, .iload 5, 2, 0), (36, .iaload, 1, 1), (37, .isub, 1, 0), (38, .i2l, 1, 0), (39, .lmul, 1, 0), (40, .lstore_n 2, 1, 0), (41, .iinc 4 1, 3, 0), (44, .iinc 5 1, 3, 0), (47, .goto (-39), 3, 2)],
  [(50, .getstatic 51, 3, 4), (53, .iload 4, 2, 0), (55, .invokestatic 54, 3, 3), (58, .lload_n 2, 1, 0), (59, .lsub, 1, 0), (60, .getstatic 51, 3, 4), (63, .bipush 9, 2, 0)],
  [(65, .iload 4, 2, 0), (67, .isub, 1, 0), (68, .invokestatic 54, 3, 3), (71, .lmul, 1, 0), (72, .lreturn, 1, 6)]]
theorem nn_d86 : ab_dtok prog_3_method_7_code nn_dt86 = true := dw_ok (by decide +kernel)
def nn_dt87 : ab_DT := [[(0, .aload_n 0, 1, 0), (1, .ifnull 19, 3, 2), (4, .iload_n 1, 1, 0), (5, .ifCond .lt 15, 3, 2), (8, .iload_n 1, 1, 0), (9, .aload_n 0, 1, 0), (10, .arraylength, 1, 1), (11, .if_icmp .ge 9, 3, 2), (14, .aload_n 0, 1, 0), (15, .iload_n 1, 1, 0)],
  [(16, .laload, 1, 1), (17, .goto 4, 3, 2), (20, .lconst 0, 1, 0), (21, .lreturn, 1, 6)]]
theorem nn_d87 : ab_dtok prog_1_method_85_code nn_dt87 = true := dw_ok (by decide +kernel)
def nn_dt88 : ab_DT := [[(0, .iload_n 0, 1, 0), (1, .iload_n 0, 1, 0), (2, .iconst 1, 1, 0), (3, .iushr, 1, 0), (4, .ldc_w 265, 3, 0), (7, .iand, 1, 0), (8, .isub, 1, 0), (9, .istore_n 0, 1, 0), (10, .iload_n 0, 1, 0), (11, .ldc_w 266, 3, 0), (14, .iand, 1, 0), (15, .iload_n 0, 1, 0)],
  [(16, .iconst 2, 1, 0), (17, .iushr, 1, 0), (18, .ldc_w 266, 3, 0), (21, .iand, 1, 0), (22, .iadd, 1, 0), (23, .istore_n 0, 1, 0), (24, .iload_n 0, 1, 0), (25, .iload_n 0, 1, 0), (26, .iconst 4, 1, 0), (27, .iushr, 1, 0), (28, .iadd, 1, 0), (29, .ldc_w 267, 3, 0)],
  [(32, .iand, 1, 0), (33, .istore_n 0, 1, 0), (34, .iload_n 0, 1, 0), (35, .iload_n 0, 1, 0), (36, .bipush 8, 2, 0), (38, .iushr, 1, 0), (39, .iadd, 1, 0), (40, .istore_n 0, 1, 0), (41, .iload_n 0, 1, 0), (42, .iload_n 0, 1, 0), (43, .bipush 16, 2, 0), (45, .iushr, 1, 0), (46, .iadd, 1, 0), (47, .istore_n 0, 1, 0)],
  [(48, .iload_n 0, 1, 0), (49, .bipush 63, 2, 0), (51, .iand, 1, 0), (52, .ireturn, 1, 6)]]
theorem nn_d88 : ab_dtok prog_20_method_49_code nn_dt88 = true := dw_ok (by decide +kernel)
def nn_dt89 : ab_DT := [[(0, .lload_n 0, 1, 0), (1, .ldc2_w 484, 3, 0), (4, .lmul, 1, 0), (5, .iload_n 2, 1, 0), (6, .i2l, 1, 0), (7, .ldc2_w 222, 3, 0), (10, .lmul, 1, 0), (11, .lcmp, 1, 2), (12, .ifCond .lt 7, 3, 2), (15, .iconst 1, 1, 0)],
  [(16, .goto 4, 3, 2), (19, .iconst 0, 1, 0), (20, .ireturn, 1, 6)]]
theorem nn_d89 : ab_dtok prog_1_method_78_code nn_dt89 = true := dw_ok (by decide +kernel)
def nn_dt90 : ab_DT := [[(0, .aload_n 0, 1, 0), (1, .iload_n 1, 1, 0), (2, .iload_n 2, 1, 0), (3, .iload_n 3, 1, 0), (4, .iload 4, 2, 0), (6, .invokevirtual 239, 3, 3), (9, .ifCond .ne 5, 3, 2), (12, .iconst (-1), 1, 0), (13, .ireturn, 1, 6), (14, .aload_n 0, 1, 0), (15, .iload_n 1, 1, 0)],
  [(16, .iload_n 2, 1, 0), (17, .iload 4, 2, 0), (19, .invokevirtual 242, 3, 3), (22, .aload_n 0, 1, 0), (23, .getfield 62, 3, 1), (26, .iconst 0, 1, 0), (27, .iload_n 3, 1, 0), (28, .invokevirtual 246, 3, 3), (31, .ireturn, 1, 6)]]
theorem nn_d90 : ab_dtok prog_1_method_18_code nn_dt90 = true := dw_ok (by decide +kernel)
def nn_dt91 : ab_DT := [[(0, .aload_n 0, 1, 0), (1, .getfield 19, 3, 1), (4, .iload_n 1, 1, 0), (5, .invokevirtual 173, 3, 3), (8, .ifCond .eq 46, 3, 2), (11, .aload_n 0, 1, 0), (12, .getfield 19, 3, 1), (15, .iload_n 2, 1, 0)],
  [(16, .invokevirtual 173, 3, 3), (19, .ifCond .eq 35, 3, 2), (22, .iload_n 1, 1, 0), (23, .iload_n 2, 1, 0), (24, .if_icmp .eq 30, 3, 2), (27, .iload_n 3, 1, 0), (28, .ifCond .eq 10, 3, 2), (31, .iload_n 3, 1, 0)],
  [(32, .invokestatic 184, 3, 3), (35, .ifCond .eq 19, 3, 2), (38, .aload_n 0, 1, 0), (39, .getfield 19, 3, 1), (42, .iload 4, 2, 0), (44, .invokevirtual 166, 3, 3), (47, .ifCond .eq 7, 3, 2)],
  [(50, .iconst 1, 1, 0), (51, .goto 4, 3, 2), (54, .iconst 0, 1, 0), (55, .ireturn, 1, 6)]]
theorem nn_d91 : ab_dtok prog_1_method_62_code nn_dt91 = true := dw_ok (by decide +kernel)
def nn_dt92 : ab_DT := [[(0, .aload_n 0, 1, 0), (1, .getfield 62, 3, 1), (4, .aload_n 0, 1, 0), (5, .getfield 19, 3, 1), (8, .aload_n 0, 1, 0), (9, .getfield 55, 3, 1), (12, .iload_n 1, 1, 0), (13, .iload_n 2, 1, 0), (14, .aload_n 0, 1, 0), (15, .getfield 19, 3, 1)],
  [(18, .iload_n 3, 1, 0), (19, .invokevirtual 169, 3, 3), (22, .invokevirtual 463, 3, 3), (25, .aload_n 0, 1, 0), (26, .getfield 62, 3, 1), (29, .aload_n 0, 1, 0), (30, .getfield 19, 3, 1)],
  [(33, .getfield 456, 3, 1), (36, .invokevirtual 467, 3, 3), (39, .return_, 1, 6)]]
theorem nn_d92 : ab_dtok prog_1_method_66_code nn_dt92 = true := dw_ok (by decide +kernel)
def nn_dt93 : ab_DT := [[(0, .iconst 1, 1, 0), (1, .istore 6, 2, 0), (3, .iload 6, 2, 0), (5, .bipush 9, 2, 0), (7, .if_icmp .gt 62, 3, 2), (10, .aload_n 2, 1, 0), (11, .aload_n 1, 1, 0), (12, .iload 6, 2, 0), (14, .iload 5, 2, 0)],
  [(16, .invokevirtual 22, 3, 3), (19, .aload_n 2, 1, 0), (20, .aload_n 1, 1, 0), (21, .iload_n 3, 1, 0), (22, .iconst 0, 1, 0), (23, .invokevirtual 28, 3, 3), (26, .aload_n 0, 1, 0), (27, .getfield 11, 3, 1), (30, .iload 6, 2, 0)],
  [(32, .aload_n 2, 1, 0), (33, .invokevirtual 31, 3, 3), (36, .invokestatic 35, 3, 3), (39, .aload_n 2, 1, 0), (40, .aload_n 1, 1, 0), (41, .iload 4, 2, 0), (43, .iconst 0, 1, 0), (44, .invokevirtual 28, 3, 3), (47, .aload_n 0, 1, 0)],
  [(48, .getfield 11, 3, 1), (51, .bipush 10, 2, 0), (53, .iload 6, 2, 0), (55, .iadd, 1, 0), (56, .aload_n 2, 1, 0), (57, .invokevirtual 31, 3, 3), (60, .invokestatic 35, 3, 3), (63, .iinc 6 1, 3, 0)],
  [(66, .goto (-63), 3, 2), (69, .return_, 1, 6)]]
theorem nn_d93 : ab_dtok prog_2_method_2_code nn_dt93 = true := dw_ok (by decide +kernel)
def nn_dt94 : ab_DT := [[(0, .iconst 1, 1, 0), (1, .istore_n 2, 1, 0), (2, .iload_n 2, 1, 0), (3, .bipush 9, 2, 0), (5, .if_icmp .gt 27, 3, 2), (8, .aload_n 0, 1, 0), (9, .iconst 0, 1, 0), (10, .iload_n 2, 1, 0), (11, .iload_n 2, 1, 0), (12, .iconst 1, 1, 0), (13, .isub, 1, 0), (14, .invokevirtual 39, 3, 3)],
  [(17, .aload_n 0, 1, 0), (18, .iconst 1, 1, 0), (19, .iload_n 2, 1, 0), (20, .iload_n 2, 1, 0), (21, .iconst 1, 1, 0), (22, .isub, 1, 0), (23, .invokevirtual 39, 3, 3), (26, .iinc 2 1, 3, 0), (29, .goto (-27), 3, 2)],
  [(32, .aload_n 0, 1, 0), (33, .iconst 0, 1, 0), (34, .iconst 0, 1, 0), (35, .iload_n 1, 1, 0), (36, .invokevirtual 39, 3, 3), (39, .aload_n 0, 1, 0), (40, .iconst 1, 1, 0), (41, .iconst 0, 1, 0), (42, .iload_n 1, 1, 0), (43, .invokevirtual 39, 3, 3), (46, .return_, 1, 6)]]
theorem nn_d94 : ab_dtok prog_2_method_3_code nn_dt94 = true := dw_ok (by decide +kernel)
def nn_dt95 : ab_DT := [[(0, .iconst 1, 1, 0), (1, .iload_n 1, 1, 0), (2, .isub, 1, 0), (3, .bipush 10, 2, 0), (5, .imul, 1, 0), (6, .istore 4, 2, 0), (8, .iload_n 2, 1, 0), (9, .ifCond .le 21, 3, 2), (12, .ldc2_w 43, 3, 0), (15, .aload_n 0, 1, 0)],
  [(16, .getfield 11, 3, 1), (19, .iload 4, 2, 0), (21, .iload_n 2, 1, 0), (22, .iadd, 1, 0), (23, .invokestatic 45, 3, 3), (26, .lsub, 1, 0), (27, .goto 6, 3, 2), (30, .ldc2_w 49, 3, 0)],
  [(33, .lstore 5, 2, 0), (35, .iconst 0, 1, 0), (36, .istore 7, 2, 0), (38, .iload_n 3, 1, 0), (39, .istore 8, 2, 0), (41, .iload 8, 2, 0), (43, .ifCond .le 43, 3, 2), (46, .ldc2_w 43, 3, 0)],
  [(49, .aload_n 0, 1, 0), (50, .getfield 15, 3, 1), (53, .iload 4, 2, 0), (55, .iload 8, 2, 0), (57, .iadd, 1, 0), (58, .invokestatic 45, 3, 3), (61, .lsub, 1, 0), (62, .lstore 9, 2, 0)],
  [(64, .lload 9, 2, 0), (66, .lload 5, 2, 0), (68, .lcmp, 1, 2), (69, .ifCond .le 11, 3, 2), (72, .lload 9, 2, 0), (74, .lstore 5, 2, 0), (76, .iload 8, 2, 0), (78, .istore 7, 2, 0)],
  [(80, .iinc 8 (-1), 3, 0), (83, .goto (-42), 3, 2), (86, .aload_n 0, 1, 0), (87, .getfield 15, 3, 1), (90, .iload_n 1, 1, 0), (91, .bipush 10, 2, 0), (93, .imul, 1, 0), (94, .iload_n 2, 1, 0), (95, .iadd, 1, 0)],
  [(96, .lload 5, 2, 0), (98, .invokestatic 35, 3, 3), (101, .aload_n 0, 1, 0), (102, .getfield 18, 3, 1), (105, .iload_n 1, 1, 0), (106, .bipush 10, 2, 0), (108, .imul, 1, 0), (109, .iload_n 2, 1, 0), (110, .iadd, 1, 0), (111, .iload 7, 2, 0)],
  [(113, .invokestatic 51, 3, 3), (116, .return_, 1, 6)]]
theorem nn_d95 : ab_dtok prog_2_method_4_code nn_dt95 = true := dw_ok (by decide +kernel)
def nn_dt96 : ab_DT := [[(0, .aload_n 0, 1, 0), (1, .getfield 18, 3, 1), (4, .iload_n 1, 1, 0), (5, .bipush 10, 2, 0), (7, .imul, 1, 0), (8, .iload_n 2, 1, 0), (9, .iadd, 1, 0), (10, .invokestatic 61, 3, 3), (13, .ireturn, 1, 6)]]
theorem nn_d96 : ab_dtok prog_2_method_8_code nn_dt96 = true := dw_ok (by decide +kernel)
def nn_dt97 : ab_DT := [[(0, .aload_n 0, 1, 0), (1, .iload_n 1, 1, 0), (2, .iload_n 2, 1, 0), (3, .iload_n 3, 1, 0), (4, .iload 4, 2, 0), (6, .invokevirtual 239, 3, 3), (9, .ifCond .ne 5, 3, 2), (12, .iconst (-1), 1, 0), (13, .ireturn, 1, 6), (14, .aload_n 0, 1, 0), (15, .iload_n 1, 1, 0)],
  [(16, .iload_n 2, 1, 0), (17, .iload 4, 2, 0), (19, .invokevirtual 253, 3, 3), (22, .aload_n 0, 1, 0), (23, .getfield 62, 3, 1), (26, .iconst 0, 1, 0), (27, .iload_n 3, 1, 0), (28, .invokevirtual 246, 3, 3), (31, .ireturn, 1, 6)]]
theorem nn_d97 : ab_dtok prog_1_method_20_code nn_dt97 = true := dw_ok (by decide +kernel)
def nn_dt98 : ab_DT := [[(0, .aload_n 0, 1, 0), (1, .getfield 62, 3, 1), (4, .aload_n 0, 1, 0), (5, .getfield 19, 3, 1), (8, .aload_n 0, 1, 0), (9, .getfield 55, 3, 1), (12, .iload_n 1, 1, 0), (13, .iload_n 2, 1, 0), (14, .aload_n 0, 1, 0), (15, .getfield 19, 3, 1)],
  [(18, .iload_n 3, 1, 0), (19, .invokevirtual 169, 3, 3), (22, .invokevirtual 463, 3, 3), (25, .aload_n 0, 1, 0), (26, .getfield 62, 3, 1), (29, .aload_n 0, 1, 0), (30, .getfield 19, 3, 1)],
  [(33, .getfield 456, 3, 1), (36, .aload_n 0, 1, 0), (37, .getfield 19, 3, 1), (40, .getfield 179, 3, 1), (43, .iload_n 2, 1, 0), (44, .invokestatic 180, 3, 3), (47, .invokevirtual 470, 3, 3)],
  [(50, .return_, 1, 6)]]
theorem nn_d98 : ab_dtok prog_1_method_67_code nn_dt98 = true := dw_ok (by decide +kernel)
def nn_dt99 : ab_DT := [[(0, .iconst 1, 1, 0), (1, .istore_n 3, 1, 0), (2, .iload_n 3, 1, 0), (3, .bipush 9, 2, 0), (5, .if_icmp .gt 18, 3, 2), (8, .aload_n 0, 1, 0), (9, .iload_n 3, 1, 0), (10, .iload_n 3, 1, 0), (11, .iconst 1, 1, 0), (12, .isub, 1, 0), (13, .iload_n 2, 1, 0), (14, .invokevirtual 54, 3, 3)],
  [(17, .iinc 3 1, 3, 0), (20, .goto (-18), 3, 2), (23, .aload_n 0, 1, 0), (24, .iconst 0, 1, 0), (25, .iload_n 1, 1, 0), (26, .iload_n 2, 1, 0), (27, .invokevirtual 54, 3, 3), (30, .return_, 1, 6)]]
theorem nn_d99 : ab_dtok prog_2_method_5_code nn_dt99 = true := dw_ok (by decide +kernel)
def nn_dt100 : ab_DT := [[(0, .iload_n 1, 1, 0), (1, .ifCond .le 21, 3, 2), (4, .ldc2_w 43, 3, 0), (7, .aload_n 0, 1, 0), (8, .getfield 11, 3, 1), (11, .bipush 10, 2, 0), (13, .iload_n 1, 1, 0), (14, .iadd, 1, 0), (15, .invokestatic 45, 3, 3)],
  [(18, .lsub, 1, 0), (19, .goto 6, 3, 2), (22, .ldc2_w 49, 3, 0), (25, .lstore 4, 2, 0), (27, .iconst 0, 1, 0), (28, .istore 6, 2, 0), (30, .iload_n 2, 1, 0), (31, .istore 7, 2, 0)],
  [(33, .iload 7, 2, 0), (35, .ifCond .le 89, 3, 2), (38, .iload 7, 2, 0), (40, .iconst 1, 1, 0), (41, .if_icmp .le 28, 3, 2), (44, .aload_n 0, 1, 0), (45, .getfield 11, 3, 1)],
  [(48, .bipush 10, 2, 0), (50, .iload 7, 2, 0), (52, .iadd, 1, 0), (53, .iconst 1, 1, 0), (54, .isub, 1, 0), (55, .invokestatic 45, 3, 3), (58, .iload_n 3, 1, 0), (59, .invokestatic 57, 3, 3), (62, .ifCond .eq 7, 3, 2)],
  [(65, .iconst 1, 1, 0), (66, .goto 4, 3, 2), (69, .iconst 0, 1, 0), (70, .istore 8, 2, 0), (72, .iload 8, 2, 0), (74, .ifCond .eq 17, 3, 2), (77, .aload_n 0, 1, 0), (78, .getfield 15, 3, 1)],
  [(81, .iload 7, 2, 0), (83, .iconst 1, 1, 0), (84, .isub, 1, 0), (85, .invokestatic 45, 3, 3), (88, .goto 12, 3, 2), (91, .aload_n 0, 1, 0), (92, .getfield 11, 3, 1), (95, .iload 7, 2, 0)],
  [(97, .invokestatic 45, 3, 3), (100, .lstore 9, 2, 0), (102, .lload 9, 2, 0), (104, .lload 4, 2, 0), (106, .lcmp, 1, 2), (107, .ifCond .le 11, 3, 2), (110, .lload 9, 2, 0)],
  [(112, .lstore 4, 2, 0), (114, .iload 7, 2, 0), (116, .istore 6, 2, 0), (118, .iinc 7 (-1), 3, 0), (121, .goto (-88), 3, 2), (124, .aload_n 0, 1, 0), (125, .getfield 15, 3, 1)],
  [(128, .iload_n 1, 1, 0), (129, .lload 4, 2, 0), (131, .invokestatic 35, 3, 3), (134, .aload_n 0, 1, 0), (135, .getfield 18, 3, 1), (138, .iload_n 1, 1, 0), (139, .iload 6, 2, 0), (141, .invokestatic 51, 3, 3)],
  [(144, .return_, 1, 6)]]
theorem nn_d100 : ab_dtok prog_2_method_6_code nn_dt100 = true := dw_ok (by decide +kernel)
def nn_dt101 : ab_DT := [[(0, .aload_n 0, 1, 0), (1, .iload_n 1, 1, 0), (2, .iload_n 2, 1, 0), (3, .iconst 0, 1, 0), (4, .iload_n 3, 1, 0), (5, .invokevirtual 239, 3, 3), (8, .ifCond .ne 5, 3, 2), (11, .iconst (-1), 1, 0), (12, .ireturn, 1, 6), (13, .aload_n 0, 1, 0), (14, .iload_n 1, 1, 0), (15, .iload_n 2, 1, 0)],
  [(16, .iload_n 3, 1, 0), (17, .invokevirtual 242, 3, 3), (20, .ldc2_w 256, 3, 0), (23, .aload_n 0, 1, 0), (24, .getfield 62, 3, 1), (27, .iconst 0, 1, 0), (28, .iconst 0, 1, 0), (29, .invokevirtual 249, 3, 3)],
  [(32, .lmul, 1, 0), (33, .lstore 4, 2, 0), (35, .ldc2_w 256, 3, 0), (38, .ldc2_w 222, 3, 0), (41, .aload_n 0, 1, 0), (42, .getfield 62, 3, 1), (45, .iconst 1, 1, 0), (46, .iconst 0, 1, 0), (47, .invokevirtual 249, 3, 3)],
  [(50, .lsub, 1, 0), (51, .lmul, 1, 0), (52, .lstore 6, 2, 0), (54, .lload 4, 2, 0), (56, .ldc2_w 222, 3, 0), (59, .lcmp, 1, 2), (60, .ifCond .le 14, 3, 2), (63, .lload 6, 2, 0)],
  [(65, .ldc2_w 222, 3, 0), (68, .lcmp, 1, 2), (69, .ifCond .le 5, 3, 2), (72, .iconst 1, 1, 0), (73, .ireturn, 1, 6), (74, .lload 4, 2, 0), (76, .ldc2_w 222, 3, 0), (79, .lcmp, 1, 2)],
  [(80, .ifCond .ge 16, 3, 2), (83, .lload 6, 2, 0), (85, .ldc2_w 222, 3, 0), (88, .lcmp, 1, 2), (89, .ifCond .ge 7, 3, 2), (92, .iconst (-1), 1, 0), (93, .goto 4, 3, 2)],
  [(96, .iconst 0, 1, 0), (97, .ireturn, 1, 6)]]
theorem nn_d101 : ab_dtok prog_1_method_22_code nn_dt101 = true := dw_ok (by decide +kernel)
def nn_dt102 : ab_DT := [[(0, .aload_n 0, 1, 0), (1, .getfield 15, 3, 1), (4, .iload_n 1, 1, 0), (5, .bipush 10, 2, 0), (7, .imul, 1, 0), (8, .iload_n 2, 1, 0), (9, .iadd, 1, 0), (10, .invokestatic 45, 3, 3), (13, .lreturn, 1, 6)]]
theorem nn_d102 : ab_dtok prog_2_method_7_code nn_dt102 = true := dw_ok (by decide +kernel)
def nn_dt103 : ab_DT := [[(0, .aload_n 0, 1, 0), (1, .iload_n 1, 1, 0), (2, .iload_n 2, 1, 0), (3, .iconst 0, 1, 0), (4, .iload_n 3, 1, 0), (5, .invokevirtual 239, 3, 3), (8, .ifCond .ne 5, 3, 2), (11, .iconst (-1), 1, 0), (12, .ireturn, 1, 6), (13, .aload_n 0, 1, 0), (14, .iload_n 1, 1, 0), (15, .iload_n 2, 1, 0)],
  [(16, .iload_n 3, 1, 0), (17, .invokevirtual 242, 3, 3), (20, .aload_n 0, 1, 0), (21, .getfield 62, 3, 1), (24, .invokevirtual 266, 3, 3), (27, .ireturn, 1, 6)]]
theorem nn_d103 : ab_dtok prog_1_method_25_code nn_dt103 = true := dw_ok (by decide +kernel)
def nn_dt104 : ab_DT := [[(0, .iconst 0, 1, 0), (1, .istore_n 1, 1, 0), (2, .iconst 0, 1, 0), (3, .istore_n 2, 1, 0), (4, .aload_n 0, 1, 0), (5, .iconst 0, 1, 0), (6, .iconst 0, 1, 0), (7, .invokevirtual 64, 3, 3), (10, .istore_n 3, 1, 0), (11, .iconst 0, 1, 0), (12, .istore 4, 2, 0), (14, .iload 4, 2, 0)],
  [(16, .bipush 9, 2, 0), (18, .if_icmp .ge 26, 3, 2), (21, .iload_n 3, 1, 0), (22, .ifCond .le 22, 3, 2), (25, .iload_n 3, 1, 0), (26, .istore_n 2, 1, 0), (27, .iconst 1, 1, 0), (28, .iload_n 1, 1, 0), (29, .isub, 1, 0), (30, .istore_n 1, 1, 0), (31, .aload_n 0, 1, 0)],
  [(32, .iload_n 1, 1, 0), (33, .iload_n 3, 1, 0), (34, .invokevirtual 64, 3, 3), (37, .istore_n 3, 1, 0), (38, .iinc 4 1, 3, 0), (41, .goto (-27), 3, 2), (44, .iload_n 2, 1, 0), (45, .ireturn, 1, 6)]]
theorem nn_d104 : ab_dtok prog_2_method_9_code nn_dt104 = true := dw_ok (by decide +kernel)
def nn_dt105 : ab_DT := [[(0, .iconst (-1), 1, 0), (1, .istore_n 3, 1, 0), (2, .iconst 0, 1, 0), (3, .istore 4, 2, 0), (5, .iconst 0, 1, 0), (6, .istore 5, 2, 0), (8, .iload 5, 2, 0), (10, .aload_n 0, 1, 0), (11, .getfield 19, 3, 1), (14, .getfield 269, 3, 1)],
  [(17, .if_icmp .ge 44, 3, 2), (20, .aload_n 0, 1, 0), (21, .iload_n 1, 1, 0), (22, .iload_n 2, 1, 0), (23, .iload 5, 2, 0), (25, .invokevirtual 272, 3, 3), (28, .istore 6, 2, 0), (30, .iload 6, 2, 0)],
  [(32, .iconst (-1), 1, 0), (33, .if_icmp .eq 22, 3, 2), (36, .iload_n 3, 1, 0), (37, .iconst (-1), 1, 0), (38, .if_icmp .eq 10, 3, 2), (41, .iload 6, 2, 0), (43, .iload 4, 2, 0), (45, .if_icmp .ge 10, 3, 2)],
  [(48, .iload 5, 2, 0), (50, .istore_n 3, 1, 0), (51, .iload 6, 2, 0), (53, .istore 4, 2, 0), (55, .iinc 5 1, 3, 0), (58, .goto (-50), 3, 2), (61, .iload_n 3, 1, 0), (62, .ireturn, 1, 6)]]
theorem nn_d105 : ab_dtok prog_1_method_26_code nn_dt105 = true := dw_ok (by decide +kernel)
def nn_dt106 : ab_DT := [[(0, .iconst (-1), 1, 0), (1, .istore_n 3, 1, 0), (2, .lconst 0, 1, 0), (3, .lstore 4, 2, 0), (5, .iconst 0, 1, 0), (6, .istore 6, 2, 0), (8, .iload 6, 2, 0), (10, .aload_n 0, 1, 0), (11, .getfield 19, 3, 1), (14, .getfield 269, 3, 1)],
  [(17, .if_icmp .ge 71, 3, 2), (20, .aload_n 0, 1, 0), (21, .iload_n 1, 1, 0), (22, .iload_n 2, 1, 0), (23, .iconst 0, 1, 0), (24, .iload 6, 2, 0), (26, .invokevirtual 239, 3, 3), (29, .ifCond .eq 53, 3, 2)],
  [(32, .aload_n 0, 1, 0), (33, .iload_n 1, 1, 0), (34, .iload_n 2, 1, 0), (35, .iload 6, 2, 0), (37, .invokevirtual 242, 3, 3), (40, .ldc2_w 256, 3, 0), (43, .aload_n 0, 1, 0), (44, .getfield 62, 3, 1), (47, .iconst 0, 1, 0)],
  [(48, .iconst 0, 1, 0), (49, .invokevirtual 249, 3, 3), (52, .lmul, 1, 0), (53, .ldc2_w 222, 3, 0), (56, .lsub, 1, 0), (57, .invokestatic 275, 3, 3), (60, .lstore 7, 2, 0), (62, .iload_n 3, 1, 0), (63, .iconst (-1), 1, 0)],
  [(64, .if_icmp .eq 11, 3, 2), (67, .lload 7, 2, 0), (69, .lload 4, 2, 0), (71, .lcmp, 1, 2), (72, .ifCond .ge 10, 3, 2), (75, .iload 6, 2, 0), (77, .istore_n 3, 1, 0), (78, .lload 7, 2, 0)],
  [(80, .lstore 4, 2, 0), (82, .iinc 6 1, 3, 0), (85, .goto (-77), 3, 2), (88, .iload_n 3, 1, 0), (89, .ireturn, 1, 6)]]
theorem nn_d106 : ab_dtok prog_1_method_27_code nn_dt106 = true := dw_ok (by decide +kernel)
def nn_dt107 : ab_DT := [[(0, .lload_n 0, 1, 0), (1, .lconst 0, 1, 0), (2, .lcmp, 1, 2), (3, .ifCond .ge 8, 3, 2), (6, .lload_n 0, 1, 0), (7, .lneg, 1, 0), (8, .goto 4, 3, 2), (11, .lload_n 0, 1, 0), (12, .lreturn, 1, 6)]]
theorem nn_d107 : ab_dtok prog_21_method_61_code nn_dt107 = true := dw_ok (by decide +kernel)
def nn_dt108 : ab_DT := [[(0, .aload_n 0, 1, 0), (1, .iload_n 1, 1, 0), (2, .iload_n 2, 1, 0), (3, .iconst 0, 1, 0), (4, .iload_n 3, 1, 0), (5, .invokevirtual 239, 3, 3), (8, .ifCond .ne 5, 3, 2), (11, .iconst (-1), 1, 0), (12, .ireturn, 1, 6), (13, .aload_n 0, 1, 0), (14, .iload_n 1, 1, 0), (15, .iload_n 2, 1, 0)],
  [(16, .iload_n 3, 1, 0), (17, .invokevirtual 242, 3, 3), (20, .aload_n 0, 1, 0), (21, .getfield 83, 3, 1), (24, .invokevirtual 281, 3, 3), (27, .aload_n 0, 1, 0), (28, .getfield 83, 3, 1), (31, .ldc_w 284, 3, 5)],
  [(34, .invokevirtual 286, 3, 3), (37, .aload_n 0, 1, 0), (38, .getfield 83, 3, 1), (41, .aload_n 0, 1, 0), (42, .getfield 19, 3, 1), (45, .getfield 289, 3, 1)],
  [(48, .iload_n 3, 1, 0), (49, .invokestatic 293, 3, 3), (52, .invokevirtual 296, 3, 3), (55, .aload_n 0, 1, 0), (56, .getfield 83, 3, 1), (59, .bipush 59, 2, 0), (61, .invokevirtual 300, 3, 3)],
  [(64, .iconst 0, 1, 0), (65, .istore 4, 2, 0), (67, .aload_n 0, 1, 0), (68, .getfield 62, 3, 1), (71, .iconst 0, 1, 0), (72, .iconst 0, 1, 0), (73, .invokevirtual 246, 3, 3), (76, .istore 5, 2, 0), (78, .iconst 0, 1, 0), (79, .istore 6, 2, 0)],
  [(81, .iload 6, 2, 0), (83, .bipush 9, 2, 0), (85, .if_icmp .ge 65, 3, 2), (88, .iload 5, 2, 0), (90, .ifCond .le 60, 3, 2), (93, .aload_n 0, 1, 0), (94, .iload 4, 2, 0)],
  [(96, .ifCond .ne 7, 3, 2), (99, .iload_n 1, 1, 0), (100, .goto 4, 3, 2), (103, .iload_n 2, 1, 0), (104, .invokevirtual 303, 3, 3), (107, .aload_n 0, 1, 0), (108, .getfield 83, 3, 1), (111, .iload 5, 2, 0)],
  [(113, .invokevirtual 306, 3, 3), (116, .aload_n 0, 1, 0), (117, .getfield 83, 3, 1), (120, .bipush 59, 2, 0), (122, .invokevirtual 300, 3, 3), (125, .iconst 1, 1, 0), (126, .iload 4, 2, 0)],
  [(128, .isub, 1, 0), (129, .istore 4, 2, 0), (131, .aload_n 0, 1, 0), (132, .getfield 62, 3, 1), (135, .iload 4, 2, 0), (137, .iload 5, 2, 0), (139, .invokevirtual 246, 3, 3), (142, .istore 5, 2, 0)],
  [(144, .iinc 6 1, 3, 0), (147, .goto (-66), 3, 2), (150, .aload_n 0, 1, 0), (151, .iload 4, 2, 0), (153, .ifCond .ne 7, 3, 2), (156, .iload_n 1, 1, 0), (157, .goto 4, 3, 2)],
  [(160, .iload_n 2, 1, 0), (161, .invokevirtual 303, 3, 3), (164, .aload_n 0, 1, 0), (165, .getfield 83, 3, 1), (168, .ldc_w 309, 3, 5), (171, .invokevirtual 286, 3, 3), (174, .aload_n 0, 1, 0), (175, .getfield 83, 3, 1)],
  [(178, .getfield 311, 3, 1), (181, .ireturn, 1, 6)]]
theorem nn_d108 : ab_dtok prog_1_method_28_code nn_dt108 = true := dw_ok (by decide +kernel)
def nn_dt109 : ab_DT := [[(0, .aload_n 0, 1, 0), (1, .iconst 0, 1, 0), (2, .putfield 13, 3, 1), (5, .return_, 1, 6)]]
theorem nn_d109 : ab_dtok prog_11_method_2_code nn_dt109 = true := dw_ok (by decide +kernel)
def nn_dt110 : ab_DT := [[(0, .iconst 0, 1, 0), (1, .istore_n 2, 1, 0), (2, .iload_n 2, 1, 0), (3, .aload_n 1, 1, 0), (4, .invokevirtual 23, 3, 3), (7, .if_icmp .ge 18, 3, 2), (10, .aload_n 0, 1, 0), (11, .aload_n 1, 1, 0), (12, .iload_n 2, 1, 0), (13, .invokevirtual 29, 3, 3)],
  [(16, .invokevirtual 33, 3, 3), (19, .iinc 2 1, 3, 0), (22, .goto (-20), 3, 2), (25, .return_, 1, 6)]]
theorem nn_d110 : ab_dtok prog_11_method_4_code nn_dt110 = true := dw_ok (by decide +kernel)
def nn_dt111 : ab_DT := [[(0, .aload_n 0, 1, 0), (1, .getfield 9, 3, 1), (4, .arraylength, 1, 1), (5, .aload_n 0, 1, 0), (6, .invokevirtual 335, 3, 3), (9, .ishr, 1, 0), (10, .ireturn, 1, 6)]]
theorem nn_d111 : ab_dtok prog_23_method_54_code nn_dt111 = true := dw_ok (by decide +kernel)
def nn_dt112 : ab_DT := [[(0, .getstatic 38, 3, 4), (3, .ifCond .eq 10, 3, 2), (6, .aload_n 0, 1, 0), (7, .getfield 15, 3, 1), (10, .goto 4, 3, 2), (13, .iconst 1, 1, 0), (14, .ireturn, 1, 6)]]
theorem nn_d112 : ab_dtok prog_23_method_152_code nn_dt112 = true := dw_ok (by decide +kernel)
def nn_dt113 : ab_DT := [[(0, .aload_n 0, 1, 0), (1, .invokevirtual 492, 3, 3), (4, .ifCond .eq 12, 3, 2), (7, .aload_n 0, 1, 0), (8, .getfield 9, 3, 1), (11, .iload_n 1, 1, 0), (12, .invokestatic 495, 3, 3), (15, .ireturn, 1, 6)],
  [(16, .aload_n 0, 1, 0), (17, .getfield 9, 3, 1), (20, .iload_n 1, 1, 0), (21, .invokestatic 498, 3, 3), (24, .ireturn, 1, 6)]]
theorem nn_d113 : ab_dtok prog_23_method_56_code nn_dt113 = true := dw_ok (by decide +kernel)
def nn_dt114 : ab_DT := [[(0, .getstatic 38, 3, 4), (3, .ifCond .eq 14, 3, 2), (6, .aload_n 0, 1, 0), (7, .getfield 15, 3, 1), (10, .ifCond .ne 7, 3, 2), (13, .iconst 1, 1, 0), (14, .goto 4, 3, 2)],
  [(17, .iconst 0, 1, 0), (18, .ireturn, 1, 6)]]
theorem nn_d114 : ab_dtok prog_23_method_154_code nn_dt114 = true := dw_ok (by decide +kernel)
def nn_dt115 : ab_DT := [[(0, .iload_n 1, 1, 0), (1, .aload_n 0, 1, 0), (2, .arraylength, 1, 1), (3, .invokestatic 9, 3, 3), (6, .aload_n 0, 1, 0), (7, .iload_n 1, 1, 0), (8, .baload, 1, 1), (9, .sipush 255, 3, 0), (12, .iand, 1, 0), (13, .i2c, 1, 4), (14, .ireturn, 1, 6)]]
theorem nn_d115 : ab_dtok prog_24_method_2_code nn_dt115 = true := dw_ok (by decide +kernel)
def nn_dt116 : ab_DT := [[(0, .iload_n 0, 1, 0), (1, .iload_n 1, 1, 0), (2, .getstatic 1053, 3, 4), (5, .invokestatic 1059, 3, 3), (8, .pop, 1, 0), (9, .return_, 1, 6)]]
theorem nn_d116 : ab_dtok prog_23_method_155_code nn_dt116 = true := dw_ok (by decide +kernel)
def nn_dt117 : ab_DT := [[(0, .iload_n 0, 1, 0), (1, .ifCond .lt 8, 3, 2), (4, .iload_n 0, 1, 0), (5, .iload_n 1, 1, 0), (6, .if_icmp .lt 10, 3, 2), (9, .aload_n 2, 1, 0), (10, .iload_n 0, 1, 0), (11, .iload_n 1, 1, 0), (12, .invokestatic 95, 3, 3), (15, .athrow, 1, 9)],
  [(16, .iload_n 0, 1, 0), (17, .ireturn, 1, 6)]]
theorem nn_d117 : ab_dtok prog_30_method_11_code nn_dt117 = true := dw_ok (by decide +kernel)
def nn_dt118 : ab_DT := [[(0, .iload_n 1, 1, 0), (1, .aload_n 0, 1, 0), (2, .invokestatic 67, 3, 3), (5, .aload_n 0, 1, 0), (6, .iload_n 1, 1, 0), (7, .invokestatic 71, 3, 3), (10, .ireturn, 1, 6)]]
theorem nn_d118 : ab_dtok prog_25_method_83_code nn_dt118 = true := dw_ok (by decide +kernel)
def nn_dt119 : ab_DT := [[(0, .iload_n 0, 1, 0), (1, .aload_n 1, 1, 0), (2, .invokestatic 48, 3, 3), (5, .invokestatic 414, 3, 3), (8, .return_, 1, 6)]]
theorem nn_d119 : ab_dtok prog_25_method_91_code nn_dt119 = true := dw_ok (by decide +kernel)
def nn_DT_80 : List ab_DT := [nn_dt80, nn_dt81, nn_dt82, nn_dt83, nn_dt84, nn_dt85, nn_dt86, nn_dt87, nn_dt88, nn_dt89, nn_dt90, nn_dt91, nn_dt92, nn_dt93, nn_dt94, nn_dt95, nn_dt96, nn_dt97, nn_dt98, nn_dt99, nn_dt100, nn_dt101, nn_dt102, nn_dt103, nn_dt104, nn_dt105, nn_dt106, nn_dt107, nn_dt108, nn_dt109, nn_dt110, nn_dt111, nn_dt112, nn_dt113, nn_dt114, nn_dt115, nn_dt116, nn_dt117, nn_dt118, nn_dt119]
theorem nn_DT_80_ok : ab_dtP nn_MT_80 nn_DT_80 := ⟨nn_d80, nn_d81, nn_d82, nn_d83, nn_d84, nn_d85, nn_d86, nn_d87, nn_d88, nn_d89, nn_d90, nn_d91, nn_d92, nn_d93, nn_d94, nn_d95, nn_d96, nn_d97, nn_d98, nn_d99, nn_d100, nn_d101, nn_d102, nn_d103, nn_d104, nn_d105, nn_d106, nn_d107, nn_d108, nn_d109, nn_d110, nn_d111, nn_d112, nn_d113, nn_d114, nn_d115, nn_d116, nn_d117, nn_d118, nn_d119, trivial⟩
end
section
def nn_dt120 : ab_DT := [[(0, .aload_n 0, 1, 0), (1, .arraylength, 1, 1), (2, .iconst 1, 1, 0), (3, .ishr, 1, 0), (4, .ireturn, 1, 6)]]
theorem nn_d120 : ab_dtok prog_25_method_6_code nn_dt120 = true := dw_ok (by decide +kernel)
def nn_dt121 : ab_DT := [[(0, .getstatic 44, 3, 4), (3, .ifCond .ne 25, 3, 2), (6, .iload_n 1, 1, 0), (7, .ifCond .lt 11, 3, 2), (10, .iload_n 1, 1, 0), (11, .aload_n 0, 1, 0), (12, .invokestatic 48, 3, 3), (15, .if_icmp .lt 13, 3, 2)],
  [(18, .new 52, 3, 9), (21, .dup, 1, 0), (22, .ldc 54, 2, 5), (24, .invokespecial 56, 3, 9), (27, .athrow, 1, 9), (28, .iload_n 1, 1, 0), (29, .iconst 1, 1, 0), (30, .ishl, 1, 0), (31, .istore_n 1, 1, 0)],
  [(32, .aload_n 0, 1, 0), (33, .iload_n 1, 1, 0), (34, .iinc 1 1, 3, 0), (37, .baload, 1, 1), (38, .sipush 255, 3, 0), (41, .iand, 1, 0), (42, .getstatic 59, 3, 4), (45, .ishl, 1, 0), (46, .aload_n 0, 1, 0), (47, .iload_n 1, 1, 0)],
  [(48, .baload, 1, 1), (49, .sipush 255, 3, 0), (52, .iand, 1, 0), (53, .getstatic 63, 3, 4), (56, .ishl, 1, 0), (57, .ior, 1, 0), (58, .i2c, 1, 4), (59, .ireturn, 1, 6)]]
theorem nn_d121 : ab_dtok prog_25_method_5_code nn_dt121 = true := dw_ok (by decide +kernel)
def nn_dt122 : ab_DT := [[(0, .aload_n 0, 1, 0), (1, .getfield 9, 3, 1), (4, .aload_n 0, 1, 0), (5, .getfield 13, 3, 1), (8, .iload_n 1, 1, 0), (9, .invokestatic 17, 3, 3), (12, .aload_n 0, 1, 0), (13, .dup, 1, 0), (14, .getfield 13, 3, 1)],
  [(17, .iconst 1, 1, 0), (18, .iadd, 1, 0), (19, .putfield 13, 3, 1), (22, .return_, 1, 6)]]
theorem nn_d122 : ab_dtok prog_11_method_3_code nn_dt122 = true := dw_ok (by decide +kernel)
def nn_dt123 : ab_DT := [[(0, .bipush 30, 2, 0), (2, .istore_n 3, 1, 0), (3, .iload_n 3, 1, 0), (4, .ifCond .lt 33, 3, 2), (7, .lload_n 1, 1, 0), (8, .iload_n 3, 1, 0), (9, .lushr, 1, 0), (10, .ldc2_w 39, 3, 0), (13, .land, 1, 0), (14, .l2i, 1, 0), (15, .istore 4, 2, 0)],
  [(17, .iload 4, 2, 0), (19, .ifCond .le 12, 3, 2), (22, .aload_n 0, 1, 0), (23, .bipush 96, 2, 0), (25, .iload 4, 2, 0), (27, .iadd, 1, 0), (28, .invokevirtual 33, 3, 3), (31, .iinc 3 (-5), 3, 0)],
  [(34, .goto (-31), 3, 2), (37, .return_, 1, 6)]]
theorem nn_d123 : ab_dtok prog_11_method_5_code nn_dt123 = true := dw_ok (by decide +kernel)
def nn_dt124 : ab_DT := [[(0, .aload_n 0, 1, 0), (1, .getfield 83, 3, 1), (4, .aload_n 0, 1, 0), (5, .getfield 19, 3, 1), (8, .getfield 474, 3, 1), (11, .iload_n 1, 1, 0), (12, .invokestatic 293, 3, 3), (15, .invokevirtual 296, 3, 3)],
  [(18, .aload_n 0, 1, 0), (19, .getfield 83, 3, 1), (22, .bipush 32, 2, 0), (24, .invokevirtual 300, 3, 3), (27, .return_, 1, 6)]]
theorem nn_d124 : ab_dtok prog_1_method_68_code nn_dt124 = true := dw_ok (by decide +kernel)
def nn_dt125 : ab_DT := [[(0, .iload_n 1, 1, 0), (1, .bipush 10, 2, 0), (3, .if_icmp .lt 14, 3, 2), (6, .aload_n 0, 1, 0), (7, .bipush 48, 2, 0), (9, .iload_n 1, 1, 0), (10, .bipush 10, 2, 0), (12, .idiv, 1, 0), (13, .iadd, 1, 0), (14, .invokevirtual 33, 3, 3)],
  [(17, .aload_n 0, 1, 0), (18, .bipush 48, 2, 0), (20, .iload_n 1, 1, 0), (21, .bipush 10, 2, 0), (23, .irem, 1, 0), (24, .iadd, 1, 0), (25, .invokevirtual 33, 3, 3), (28, .return_, 1, 6)]]
theorem nn_d125 : ab_dtok prog_11_method_6_code nn_dt125 = true := dw_ok (by decide +kernel)
def nn_dt126 : ab_DT := [[(0, .iload_n 1, 1, 0), (1, .invokestatic 184, 3, 3), (4, .ifCond .eq 14, 3, 2), (7, .aload_n 0, 1, 0), (8, .getfield 19, 3, 1), (11, .iload_n 2, 1, 0), (12, .invokevirtual 166, 3, 3), (15, .ifCond .ne 5, 3, 2)],
  [(18, .iconst (-1), 1, 0), (19, .ireturn, 1, 6), (20, .iconst (-1), 1, 0), (21, .istore_n 3, 1, 0), (22, .ldc2_w 312, 3, 0), (25, .lstore 4, 2, 0), (27, .iconst 0, 1, 0), (28, .istore 6, 2, 0), (30, .iload 6, 2, 0)],
  [(32, .aload_n 0, 1, 0), (33, .getfield 19, 3, 1), (36, .getfield 314, 3, 1), (39, .if_icmp .ge 41, 3, 2), (42, .aload_n 0, 1, 0), (43, .iload 6, 2, 0), (45, .iload_n 1, 1, 0), (46, .aload_n 0, 1, 0), (47, .getfield 19, 3, 1)],
  [(50, .iload_n 2, 1, 0), (51, .invokevirtual 169, 3, 3), (54, .invokevirtual 228, 3, 3), (57, .lstore 7, 2, 0), (59, .lload 7, 2, 0), (61, .lload 4, 2, 0), (63, .lcmp, 1, 2)],
  [(64, .ifCond .le 10, 3, 2), (67, .iload 6, 2, 0), (69, .istore_n 3, 1, 0), (70, .lload 7, 2, 0), (72, .lstore 4, 2, 0), (74, .iinc 6 1, 3, 0), (77, .goto (-47), 3, 2)],
  [(80, .iload_n 3, 1, 0), (81, .ireturn, 1, 6)]]
theorem nn_d126 : ab_dtok prog_1_method_29_code nn_dt126 = true := dw_ok (by decide +kernel)
def nn_dt127 : ab_DT := [[(0, .iload_n 1, 1, 0), (1, .invokestatic 187, 3, 3), (4, .ifCond .eq 14, 3, 2), (7, .aload_n 0, 1, 0), (8, .getfield 19, 3, 1), (11, .iload_n 2, 1, 0), (12, .invokevirtual 166, 3, 3), (15, .ifCond .ne 5, 3, 2)],
  [(18, .iconst (-1), 1, 0), (19, .ireturn, 1, 6), (20, .aload_n 0, 1, 0), (21, .getfield 19, 3, 1), (24, .iload_n 2, 1, 0), (25, .invokevirtual 169, 3, 3), (28, .istore_n 3, 1, 0), (29, .iconst (-1), 1, 0), (30, .istore 4, 2, 0)],
  [(32, .iconst 0, 1, 0), (33, .istore 5, 2, 0), (35, .iconst 0, 1, 0), (36, .istore 6, 2, 0), (38, .iload 6, 2, 0), (40, .aload_n 0, 1, 0), (41, .getfield 19, 3, 1), (44, .getfield 317, 3, 1), (47, .if_icmp .ge 61, 3, 2)],
  [(50, .iload_n 3, 1, 0), (51, .iload 6, 2, 0), (53, .invokestatic 197, 3, 3), (56, .ifCond .eq 46, 3, 2), (59, .aload_n 0, 1, 0), (60, .getfield 19, 3, 1), (63, .iload 6, 2, 0)],
  [(65, .iload_n 1, 1, 0), (66, .iload_n 3, 1, 0), (67, .invokevirtual 203, 3, 3), (70, .istore 7, 2, 0), (72, .iload 7, 2, 0), (74, .iconst (-1), 1, 0), (75, .if_icmp .ne 8, 3, 2), (78, .bipush 10, 2, 0)],
  [(80, .goto 5, 3, 2), (83, .iload 7, 2, 0), (85, .istore 8, 2, 0), (87, .iload 8, 2, 0), (89, .iload 5, 2, 0), (91, .if_icmp .le 11, 3, 2), (94, .iload 6, 2, 0)],
  [(96, .istore 4, 2, 0), (98, .iload 8, 2, 0), (100, .istore 5, 2, 0), (102, .iinc 6 1, 3, 0), (105, .goto (-67), 3, 2), (108, .iload 4, 2, 0), (110, .ireturn, 1, 6)]]
theorem nn_d127 : ab_dtok prog_1_method_30_code nn_dt127 = true := dw_ok (by decide +kernel)
def nn_dt128 : ab_DT := [[(0, .aload_n 0, 1, 0), (1, .getfield 19, 3, 1), (4, .iload_n 1, 1, 0), (5, .invokevirtual 173, 3, 3), (8, .ifCond .eq 29, 3, 2), (11, .iload_n 2, 1, 0), (12, .invokestatic 184, 3, 3), (15, .ifCond .eq 22, 3, 2)],
  [(18, .aload_n 0, 1, 0), (19, .getfield 19, 3, 1), (22, .iload_n 3, 1, 0), (23, .invokevirtual 166, 3, 3), (26, .ifCond .eq 11, 3, 2), (29, .iload 4, 2, 0), (31, .invokestatic 232, 3, 3)],
  [(34, .ifCond .ne 5, 3, 2), (37, .iconst (-1), 1, 0), (38, .ireturn, 1, 6), (39, .aload_n 0, 1, 0), (40, .getfield 19, 3, 1), (43, .iload_n 3, 1, 0), (44, .invokevirtual 169, 3, 3), (47, .istore 5, 2, 0)],
  [(49, .iconst (-1), 1, 0), (50, .istore 6, 2, 0), (52, .ldc2_w 312, 3, 0), (55, .lstore 7, 2, 0), (57, .aload_n 0, 1, 0), (58, .getfield 55, 3, 1), (61, .aload_n 0, 1, 0), (62, .getfield 19, 3, 1)],
  [(65, .iload_n 2, 1, 0), (66, .iload 5, 2, 0), (68, .invokevirtual 320, 3, 3), (71, .iconst 0, 1, 0), (72, .istore 9, 2, 0), (74, .iload 9, 2, 0), (76, .iload 5, 2, 0), (78, .if_icmp .gt 86, 3, 2)],
  [(81, .iload 9, 2, 0), (83, .iload 5, 2, 0), (85, .iconst (-1), 1, 0), (86, .ixor, 1, 0), (87, .iand, 1, 0), (88, .ifCond .ne 70, 3, 2), (91, .iload 9, 2, 0), (93, .invokestatic 324, 3, 3)],
  [(96, .iload 4, 2, 0), (98, .if_icmp .gt 60, 3, 2), (101, .aload_n 0, 1, 0), (102, .getfield 55, 3, 1), (105, .aload_n 0, 1, 0), (106, .getfield 19, 3, 1), (109, .iload_n 1, 1, 0), (110, .iload 9, 2, 0)],
  [(112, .invokevirtual 329, 3, 3), (115, .aload_n 0, 1, 0), (116, .getfield 55, 3, 1), (119, .invokevirtual 332, 3, 3), (122, .lstore 10, 2, 0), (124, .lload 10, 2, 0), (126, .lload 7, 2, 0)],
  [(128, .lcmp, 1, 2), (129, .ifCond .gt 21, 3, 2), (132, .lload 10, 2, 0), (134, .lload 7, 2, 0), (136, .lcmp, 1, 2), (137, .ifCond .ne 21, 3, 2), (140, .iload 9, 2, 0), (142, .iload 6, 2, 0)],
  [(144, .invokestatic 336, 3, 3), (147, .ifCond .eq 11, 3, 2), (150, .iload 9, 2, 0), (152, .istore 6, 2, 0), (154, .lload 10, 2, 0), (156, .lstore 7, 2, 0), (158, .iinc 9 1, 3, 0)],
  [(161, .goto (-87), 3, 2), (164, .iload 6, 2, 0), (166, .ireturn, 1, 6)]]
theorem nn_d128 : ab_dtok prog_1_method_31_code nn_dt128 = true := dw_ok (by decide +kernel)
def nn_dt129 : ab_DT := [[(0, .iload_n 0, 1, 0), (1, .invokestatic 324, 3, 3), (4, .iload_n 1, 1, 0), (5, .invokestatic 324, 3, 3), (8, .if_icmp .ge 7, 3, 2), (11, .iconst 1, 1, 0), (12, .goto 4, 3, 2), (15, .iconst 0, 1, 0)],
  [(16, .ireturn, 1, 6)]]
theorem nn_d129 : ab_dtok prog_1_method_82_code nn_dt129 = true := dw_ok (by decide +kernel)
def nn_dt130 : ab_DT := [[(0, .aload_n 0, 1, 0), (1, .getfield 19, 3, 1), (4, .iload_n 1, 1, 0), (5, .invokevirtual 173, 3, 3), (8, .ifCond .eq 34, 3, 2), (11, .aload_n 0, 1, 0), (12, .getfield 19, 3, 1), (15, .iload_n 2, 1, 0)],
  [(16, .invokevirtual 157, 3, 3), (19, .ifCond .eq 23, 3, 2), (22, .iload_n 3, 1, 0), (23, .invokestatic 232, 3, 3), (26, .ifCond .eq 16, 3, 2), (29, .aload_n 0, 1, 0), (30, .getfield 19, 3, 1)],
  [(33, .iload_n 1, 1, 0), (34, .iload_n 2, 1, 0), (35, .invokevirtual 176, 3, 3), (38, .iload_n 3, 1, 0), (39, .if_icmp .ne 5, 3, 2), (42, .iconst 0, 1, 0), (43, .ireturn, 1, 6), (44, .aload_n 0, 1, 0), (45, .getfield 76, 3, 1)],
  [(48, .aload_n 0, 1, 0), (49, .getfield 19, 3, 1), (52, .iload_n 1, 1, 0), (53, .invokevirtual 339, 3, 3), (56, .aload_n 0, 1, 0), (57, .getfield 19, 3, 1), (60, .iload_n 1, 1, 0), (61, .iload_n 2, 1, 0), (62, .iload_n 3, 1, 0), (63, .invokevirtual 343, 3, 3)],
  [(66, .iconst 1, 1, 0), (67, .ireturn, 1, 6)]]
theorem nn_d130 : ab_dtok prog_1_method_32_code nn_dt130 = true := dw_ok (by decide +kernel)
def nn_dt131 : ab_DT := [[(0, .aload_n 0, 1, 0), (1, .getfield 15, 3, 1), (4, .bipush 8, 2, 0), (6, .if_icmp .lt 44, 3, 2), (9, .iconst 0, 1, 0), (10, .istore_n 3, 1, 0), (11, .iload_n 3, 1, 0), (12, .bipush 11, 2, 0), (14, .iadd, 1, 0), (15, .aload_n 0, 1, 0)],
  [(16, .getfield 11, 3, 1), (19, .arraylength, 1, 1), (20, .if_icmp .ge 24, 3, 2), (23, .aload_n 0, 1, 0), (24, .getfield 11, 3, 1), (27, .iload_n 3, 1, 0), (28, .aload_n 0, 1, 0), (29, .getfield 11, 3, 1)],
  [(32, .iload_n 3, 1, 0), (33, .bipush 11, 2, 0), (35, .iadd, 1, 0), (36, .iaload, 1, 1), (37, .iastore, 1, 1), (38, .iinc 3 1, 3, 0), (41, .goto (-30), 3, 2), (44, .aload_n 0, 1, 0), (45, .bipush 7, 2, 0), (47, .putfield 15, 3, 1)],
  [(50, .aload_n 0, 1, 0), (51, .getfield 15, 3, 1), (54, .bipush 11, 2, 0), (56, .imul, 1, 0), (57, .istore_n 3, 1, 0), (58, .iconst 0, 1, 0), (59, .istore 4, 2, 0), (61, .iload 4, 2, 0), (63, .bipush 9, 2, 0)],
  [(65, .if_icmp .ge 27, 3, 2), (68, .aload_n 0, 1, 0), (69, .getfield 11, 3, 1), (72, .iload_n 3, 1, 0), (73, .iload 4, 2, 0), (75, .iadd, 1, 0), (76, .aload_n 1, 1, 0), (77, .iload_n 2, 1, 0), (78, .iload 4, 2, 0)],
  [(80, .invokevirtual 19, 3, 3), (83, .invokestatic 25, 3, 3), (86, .iinc 4 1, 3, 0), (89, .goto (-28), 3, 2), (92, .aload_n 0, 1, 0), (93, .getfield 11, 3, 1)],
  [(96, .iload_n 3, 1, 0), (97, .bipush 9, 2, 0), (99, .iadd, 1, 0), (100, .aload_n 1, 1, 0), (101, .getfield 29, 3, 1), (104, .iload_n 2, 1, 0), (105, .invokestatic 32, 3, 3), (108, .invokestatic 25, 3, 3), (111, .aload_n 0, 1, 0)],
  [(112, .getfield 11, 3, 1), (115, .iload_n 3, 1, 0), (116, .bipush 9, 2, 0), (118, .iadd, 1, 0), (119, .iconst 1, 1, 0), (120, .iadd, 1, 0), (121, .iload_n 2, 1, 0), (122, .invokestatic 25, 3, 3), (125, .aload_n 0, 1, 0), (126, .dup, 1, 0), (127, .getfield 15, 3, 1)],
  [(130, .iconst 1, 1, 0), (131, .iadd, 1, 0), (132, .putfield 15, 3, 1), (135, .return_, 1, 6)]]
theorem nn_d131 : ab_dtok prog_5_method_2_code nn_dt131 = true := dw_ok (by decide +kernel)
def nn_dt132 : ab_DT := [[(0, .aload_n 0, 1, 0), (1, .getfield 19, 3, 1), (4, .iload_n 1, 1, 0), (5, .invokevirtual 173, 3, 3), (8, .ifCond .eq 25, 3, 2), (11, .iload_n 2, 1, 0), (12, .invokestatic 232, 3, 3), (15, .ifCond .eq 18, 3, 2)],
  [(18, .aload_n 0, 1, 0), (19, .getfield 19, 3, 1), (22, .getfield 179, 3, 1), (25, .iload_n 1, 1, 0), (26, .invokestatic 180, 3, 3), (29, .iload_n 2, 1, 0), (30, .if_icmp .ne 5, 3, 2)],
  [(33, .iconst 0, 1, 0), (34, .ireturn, 1, 6), (35, .aload_n 0, 1, 0), (36, .getfield 76, 3, 1), (39, .aload_n 0, 1, 0), (40, .getfield 19, 3, 1), (43, .iload_n 1, 1, 0), (44, .invokevirtual 339, 3, 3), (47, .aload_n 0, 1, 0)],
  [(48, .getfield 19, 3, 1), (51, .getfield 179, 3, 1), (54, .iload_n 1, 1, 0), (55, .iload_n 2, 1, 0), (56, .invokestatic 346, 3, 3), (59, .iconst 1, 1, 0), (60, .ireturn, 1, 6)]]
theorem nn_d132 : ab_dtok prog_1_method_33_code nn_dt132 = true := dw_ok (by decide +kernel)
def nn_dt133 : ab_DT := [[(0, .aload_n 0, 1, 0), (1, .getfield 76, 3, 1), (4, .getfield 135, 3, 1), (7, .iconst 1, 1, 0), (8, .if_icmp .ge 5, 3, 2), (11, .iconst (-1), 1, 0), (12, .ireturn, 1, 6), (13, .aload_n 0, 1, 0), (14, .getfield 76, 3, 1)],
  [(17, .aload_n 0, 1, 0), (18, .getfield 19, 3, 1), (21, .invokevirtual 350, 3, 3), (24, .aload_n 0, 1, 0), (25, .getfield 76, 3, 1), (28, .getfield 135, 3, 1), (31, .ireturn, 1, 6)]]
theorem nn_d133 : ab_dtok prog_1_method_34_code nn_dt133 = true := dw_ok (by decide +kernel)
def nn_dt134 : ab_DT := [[(0, .aload_n 0, 1, 0), (1, .dup, 1, 0), (2, .getfield 15, 3, 1), (5, .iconst 1, 1, 0), (6, .isub, 1, 0), (7, .putfield 15, 3, 1), (10, .aload_n 0, 1, 0), (11, .getfield 15, 3, 1), (14, .bipush 11, 2, 0)],
  [(16, .imul, 1, 0), (17, .istore_n 2, 1, 0), (18, .aload_n 0, 1, 0), (19, .getfield 11, 3, 1), (22, .iload_n 2, 1, 0), (23, .bipush 9, 2, 0), (25, .iadd, 1, 0), (26, .iconst 1, 1, 0), (27, .iadd, 1, 0), (28, .invokestatic 32, 3, 3), (31, .istore_n 3, 1, 0)],
  [(32, .iconst 0, 1, 0), (33, .istore 4, 2, 0), (35, .iload 4, 2, 0), (37, .bipush 9, 2, 0), (39, .if_icmp .ge 27, 3, 2), (42, .aload_n 1, 1, 0), (43, .iload_n 3, 1, 0), (44, .iload 4, 2, 0), (46, .aload_n 0, 1, 0), (47, .getfield 11, 3, 1)],
  [(50, .iload_n 2, 1, 0), (51, .iload 4, 2, 0), (53, .iadd, 1, 0), (54, .invokestatic 32, 3, 3), (57, .invokevirtual 36, 3, 3), (60, .iinc 4 1, 3, 0), (63, .goto (-28), 3, 2)],
  [(66, .aload_n 1, 1, 0), (67, .getfield 29, 3, 1), (70, .iload_n 3, 1, 0), (71, .aload_n 0, 1, 0), (72, .getfield 11, 3, 1), (75, .iload_n 2, 1, 0), (76, .bipush 9, 2, 0), (78, .iadd, 1, 0), (79, .invokestatic 32, 3, 3)],
  [(82, .invokestatic 25, 3, 3), (85, .return_, 1, 6)]]
theorem nn_d134 : ab_dtok prog_5_method_3_code nn_dt134 = true := dw_ok (by decide +kernel)
def nn_dt135 : ab_DT := [[(0, .iload_n 1, 1, 0), (1, .invokestatic 353, 3, 3), (4, .ifCond .eq 25, 3, 2), (7, .iload_n 2, 1, 0), (8, .invokestatic 353, 3, 3), (11, .ifCond .eq 18, 3, 2), (14, .iload_n 3, 1, 0), (15, .invokestatic 232, 3, 3)],
  [(18, .ifCond .eq 11, 3, 2), (21, .iload 4, 2, 0), (23, .invokestatic 232, 3, 3), (26, .ifCond .ne 5, 3, 2), (29, .iconst (-1), 1, 0), (30, .ireturn, 1, 6), (31, .aload_n 0, 1, 0)],
  [(32, .iload_n 3, 1, 0), (33, .iload 4, 2, 0), (35, .iconst 1, 1, 0), (36, .invokevirtual 356, 3, 3), (39, .aload_n 0, 1, 0), (40, .getfield 94, 3, 1), (43, .iload_n 1, 1, 0), (44, .iconst 3, 1, 0), (45, .imul, 1, 0), (46, .iload_n 2, 1, 0), (47, .iadd, 1, 0)],
  [(48, .invokestatic 180, 3, 3), (51, .ireturn, 1, 6)]]
theorem nn_d135 : ab_dtok prog_1_method_36_code nn_dt135 = true := dw_ok (by decide +kernel)
def nn_dt136 : ab_DT := [[(0, .iload_n 0, 1, 0), (1, .ifCond .lt 12, 3, 2), (4, .iload_n 0, 1, 0), (5, .iconst 3, 1, 0), (6, .if_icmp .ge 7, 3, 2), (9, .iconst 1, 1, 0), (10, .goto 4, 3, 2), (13, .iconst 0, 1, 0), (14, .ireturn, 1, 6)]]
theorem nn_d136 : ab_dtok prog_1_method_76_code nn_dt136 = true := dw_ok (by decide +kernel)
def nn_dt137 : ab_DT := [[(0, .iconst 2, 1, 0), (1, .istore 4, 2, 0), (3, .iload 4, 2, 0), (5, .ifCond .lt 157, 3, 2), (8, .iconst 2, 1, 0), (9, .istore 5, 2, 0), (11, .iload 5, 2, 0), (13, .ifCond .lt 143, 3, 2)],
  [(16, .iload_n 1, 1, 0), (17, .aload_n 0, 1, 0), (18, .iload 4, 2, 0), (20, .iconst 1, 1, 0), (21, .iadd, 1, 0), (22, .iload 5, 2, 0), (24, .invokevirtual 360, 3, 3), (27, .imul, 1, 0), (28, .bipush 9, 2, 0), (30, .iload_n 1, 1, 0), (31, .isub, 1, 0)],
  [(32, .aload_n 0, 1, 0), (33, .iload 4, 2, 0), (35, .iload 5, 2, 0), (37, .iconst 1, 1, 0), (38, .iadd, 1, 0), (39, .invokevirtual 360, 3, 3), (42, .imul, 1, 0), (43, .iadd, 1, 0), (44, .bipush 9, 2, 0), (46, .idiv, 1, 0), (47, .istore 6, 2, 0)],
  [(49, .iload_n 2, 1, 0), (50, .aload_n 0, 1, 0), (51, .iload 4, 2, 0), (53, .iconst 2, 1, 0), (54, .iadd, 1, 0), (55, .iload 5, 2, 0), (57, .invokevirtual 360, 3, 3), (60, .imul, 1, 0), (61, .bipush 9, 2, 0), (63, .iload_n 2, 1, 0)],
  [(64, .isub, 1, 0), (65, .aload_n 0, 1, 0), (66, .iload 4, 2, 0), (68, .iload 5, 2, 0), (70, .iconst 2, 1, 0), (71, .iadd, 1, 0), (72, .invokevirtual 360, 3, 3), (75, .imul, 1, 0), (76, .iadd, 1, 0), (77, .bipush 9, 2, 0), (79, .idiv, 1, 0)],
  [(80, .istore 7, 2, 0), (82, .iload_n 3, 1, 0), (83, .ifCond .eq 14, 3, 2), (86, .iload 7, 2, 0), (88, .iload 6, 2, 0), (90, .if_icmp .le 7, 3, 2), (93, .iconst 1, 1, 0), (94, .goto 4, 3, 2)],
  [(97, .iconst 0, 1, 0), (98, .istore 8, 2, 0), (100, .aload_n 0, 1, 0), (101, .getfield 91, 3, 1), (104, .iload 4, 2, 0), (106, .iconst 3, 1, 0), (107, .imul, 1, 0), (108, .iload 5, 2, 0), (110, .iadd, 1, 0), (111, .iload 8, 2, 0)],
  [(113, .ifCond .eq 8, 3, 2), (116, .iload 7, 2, 0), (118, .goto 5, 3, 2), (121, .iload 6, 2, 0), (123, .invokestatic 346, 3, 3), (126, .aload_n 0, 1, 0), (127, .getfield 94, 3, 1)],
  [(130, .iload 4, 2, 0), (132, .iconst 3, 1, 0), (133, .imul, 1, 0), (134, .iload 5, 2, 0), (136, .iadd, 1, 0), (137, .iload 8, 2, 0), (139, .ifCond .eq 7, 3, 2), (142, .iconst 1, 1, 0), (143, .goto 4, 3, 2)],
  [(146, .iconst 0, 1, 0), (147, .invokestatic 346, 3, 3), (150, .iinc 5 (-1), 3, 0), (153, .goto (-142), 3, 2), (156, .iinc 4 (-1), 3, 0), (159, .goto (-156), 3, 2)],
  [(162, .return_, 1, 6)]]
theorem nn_d137 : ab_dtok prog_1_method_69_code nn_dt137 = true := dw_ok (by decide +kernel)
def nn_dt138 : ab_DT := [[(0, .iload_n 1, 1, 0), (1, .iconst 3, 1, 0), (2, .if_icmp .lt 7, 3, 2), (5, .ldc_w 477, 3, 0), (8, .ireturn, 1, 6), (9, .iload_n 2, 1, 0), (10, .iconst 3, 1, 0), (11, .if_icmp .lt 7, 3, 2), (14, .iconst 0, 1, 0), (15, .goto 15, 3, 2)],
  [(18, .aload_n 0, 1, 0), (19, .getfield 91, 3, 1), (22, .iload_n 1, 1, 0), (23, .iconst 3, 1, 0), (24, .imul, 1, 0), (25, .iload_n 2, 1, 0), (26, .iadd, 1, 0), (27, .invokestatic 180, 3, 3), (30, .ireturn, 1, 6)]]
theorem nn_d138 : ab_dtok prog_1_method_70_code nn_dt138 = true := dw_ok (by decide +kernel)
def nn_dt139 : ab_DT := [[(0, .aload_n 0, 1, 0), (1, .getfield 19, 3, 1), (4, .iload_n 1, 1, 0), (5, .invokevirtual 173, 3, 3), (8, .ifCond .eq 29, 3, 2), (11, .iload_n 2, 1, 0), (12, .invokestatic 184, 3, 3), (15, .ifCond .eq 22, 3, 2)],
  [(18, .aload_n 0, 1, 0), (19, .getfield 19, 3, 1), (22, .iload_n 3, 1, 0), (23, .invokevirtual 166, 3, 3), (26, .ifCond .eq 11, 3, 2), (29, .iload 4, 2, 0), (31, .invokestatic 232, 3, 3)],
  [(34, .ifCond .ne 5, 3, 2), (37, .iconst (-1), 1, 0), (38, .ireturn, 1, 6), (39, .aload_n 0, 1, 0), (40, .getfield 19, 3, 1), (43, .iload_n 3, 1, 0), (44, .invokevirtual 169, 3, 3), (47, .istore 5, 2, 0)],
  [(49, .iconst (-1), 1, 0), (50, .istore 6, 2, 0), (52, .aload_n 0, 1, 0), (53, .getfield 55, 3, 1), (56, .aload_n 0, 1, 0), (57, .getfield 19, 3, 1), (60, .iload_n 2, 1, 0), (61, .iload 5, 2, 0), (63, .invokevirtual 320, 3, 3)],
  [(66, .iconst 0, 1, 0), (67, .istore 7, 2, 0), (69, .iload 7, 2, 0), (71, .iload 5, 2, 0), (73, .if_icmp .gt 68, 3, 2), (76, .iload 7, 2, 0), (78, .iload 5, 2, 0)],
  [(80, .iconst (-1), 1, 0), (81, .ixor, 1, 0), (82, .iand, 1, 0), (83, .ifCond .ne 52, 3, 2), (86, .iload 6, 2, 0), (88, .iconst (-1), 1, 0), (89, .if_icmp .eq 13, 3, 2), (92, .iload 7, 2, 0), (94, .iload 6, 2, 0)],
  [(96, .invokestatic 336, 3, 3), (99, .ifCond .eq 36, 3, 2), (102, .aload_n 0, 1, 0), (103, .getfield 55, 3, 1), (106, .aload_n 0, 1, 0), (107, .getfield 19, 3, 1), (110, .iload_n 1, 1, 0), (111, .iload 7, 2, 0)],
  [(113, .invokevirtual 329, 3, 3), (116, .aload_n 0, 1, 0), (117, .getfield 55, 3, 1), (120, .invokevirtual 332, 3, 3), (123, .iload 4, 2, 0), (125, .invokestatic 235, 3, 3)],
  [(128, .ifCond .eq 7, 3, 2), (131, .iload 7, 2, 0), (133, .istore 6, 2, 0), (135, .iinc 7 1, 3, 0), (138, .goto (-69), 3, 2), (141, .iload 6, 2, 0), (143, .ireturn, 1, 6)]]
theorem nn_d139 : ab_dtok prog_1_method_38_code nn_dt139 = true := dw_ok (by decide +kernel)
def nn_dt140 : ab_DT := [[(0, .aload_n 0, 1, 0), (1, .getfield 19, 3, 1), (4, .iload_n 1, 1, 0), (5, .invokevirtual 173, 3, 3), (8, .ifCond .eq 14, 3, 2), (11, .aload_n 0, 1, 0), (12, .getfield 19, 3, 1), (15, .iload_n 2, 1, 0)],
  [(16, .invokevirtual 173, 3, 3), (19, .ifCond .ne 5, 3, 2), (22, .iconst (-1), 1, 0), (23, .ireturn, 1, 6), (24, .iconst 0, 1, 0), (25, .istore_n 3, 1, 0), (26, .iconst 0, 1, 0), (27, .istore 4, 2, 0), (29, .iload 4, 2, 0), (31, .aload_n 0, 1, 0)],
  [(32, .getfield 19, 3, 1), (35, .getfield 317, 3, 1), (38, .if_icmp .ge 35, 3, 2), (41, .aload_n 0, 1, 0), (42, .getfield 19, 3, 1), (45, .iload_n 1, 1, 0), (46, .iload 4, 2, 0)],
  [(48, .invokevirtual 176, 3, 3), (51, .aload_n 0, 1, 0), (52, .getfield 19, 3, 1), (55, .iload_n 2, 1, 0), (56, .iload 4, 2, 0), (58, .invokevirtual 176, 3, 3), (61, .if_icmp .eq 6, 3, 2)],
  [(64, .iinc 3 1, 3, 0), (67, .iinc 4 1, 3, 0), (70, .goto (-41), 3, 2), (73, .iload_n 3, 1, 0), (74, .ifCond .le 56, 3, 2), (77, .aload_n 0, 1, 0), (78, .getfield 76, 3, 1)],
  [(81, .aload_n 0, 1, 0), (82, .getfield 19, 3, 1), (85, .iload_n 1, 1, 0), (86, .invokevirtual 339, 3, 3), (89, .iconst 0, 1, 0), (90, .istore 4, 2, 0), (92, .iload 4, 2, 0), (94, .aload_n 0, 1, 0), (95, .getfield 19, 3, 1)],
  [(98, .getfield 317, 3, 1), (101, .if_icmp .ge 29, 3, 2), (104, .aload_n 0, 1, 0), (105, .getfield 19, 3, 1), (108, .iload_n 1, 1, 0), (109, .iload 4, 2, 0), (111, .aload_n 0, 1, 0)],
  [(112, .getfield 19, 3, 1), (115, .iload_n 2, 1, 0), (116, .iload 4, 2, 0), (118, .invokevirtual 176, 3, 3), (121, .invokevirtual 343, 3, 3), (124, .iinc 4 1, 3, 0), (127, .goto (-35), 3, 2)],
  [(130, .iload_n 3, 1, 0), (131, .ireturn, 1, 6)]]
theorem nn_d140 : ab_dtok prog_1_method_39_code nn_dt140 = true := dw_ok (by decide +kernel)
def nn_dt141 : ab_DT := [[(0, .iload_n 1, 1, 0), (1, .invokestatic 184, 3, 3), (4, .ifCond .eq 27, 3, 2), (7, .iload_n 2, 1, 0), (8, .invokestatic 187, 3, 3), (11, .ifCond .eq 20, 3, 2), (14, .aload_n 0, 1, 0), (15, .getfield 19, 3, 1)],
  [(18, .iload_n 3, 1, 0), (19, .invokevirtual 190, 3, 3), (22, .ifCond .eq 9, 3, 2), (25, .iload 4, 2, 0), (27, .iconst (-1), 1, 0), (28, .if_icmp .ge 5, 3, 2), (31, .iconst (-1), 1, 0)],
  [(32, .ireturn, 1, 6), (33, .aload_n 0, 1, 0), (34, .getfield 19, 3, 1), (37, .iload_n 3, 1, 0), (38, .invokevirtual 169, 3, 3), (41, .istore 5, 2, 0), (43, .iconst 0, 1, 0), (44, .istore 6, 2, 0), (46, .iconst 0, 1, 0), (47, .istore 7, 2, 0)],
  [(49, .iload 7, 2, 0), (51, .aload_n 0, 1, 0), (52, .getfield 19, 3, 1), (55, .getfield 317, 3, 1), (58, .if_icmp .ge 91, 3, 2), (61, .iload 5, 2, 0), (63, .iload 7, 2, 0)],
  [(65, .invokestatic 197, 3, 3), (68, .ifCond .eq 19, 3, 2), (71, .aload_n 0, 1, 0), (72, .getfield 19, 3, 1), (75, .iload 7, 2, 0), (77, .iload_n 1, 1, 0), (78, .iload_n 2, 1, 0), (79, .iload 5, 2, 0)],
  [(81, .invokevirtual 193, 3, 3), (84, .goto 4, 3, 2), (87, .iconst 0, 1, 0), (88, .istore 8, 2, 0), (90, .iload 7, 2, 0), (92, .iconst 1, 1, 0), (93, .iadd, 1, 0), (94, .istore 9, 2, 0)],
  [(96, .iload 9, 2, 0), (98, .aload_n 0, 1, 0), (99, .getfield 19, 3, 1), (102, .getfield 317, 3, 1), (105, .if_icmp .ge 38, 3, 2), (108, .iload 8, 2, 0), (110, .iload 9, 2, 0)],
  [(112, .invokestatic 197, 3, 3), (115, .ifCond .eq 22, 3, 2), (118, .iload 6, 2, 0), (120, .iload 4, 2, 0), (122, .if_icmp .ne 12, 3, 2), (125, .bipush 10, 2, 0), (127, .iload 7, 2, 0)],
  [(129, .imul, 1, 0), (130, .iload 9, 2, 0), (132, .iadd, 1, 0), (133, .ireturn, 1, 6), (134, .iinc 6 1, 3, 0), (137, .iinc 9 1, 3, 0), (140, .goto (-44), 3, 2), (143, .iinc 7 1, 3, 0)],
  [(146, .goto (-97), 3, 2), (149, .iload 4, 2, 0), (151, .iconst (-1), 1, 0), (152, .if_icmp .ne 8, 3, 2), (155, .iload 6, 2, 0), (157, .goto 4, 3, 2)],
  [(160, .iconst (-1), 1, 0), (161, .ireturn, 1, 6)]]
theorem nn_d141 : ab_dtok prog_1_method_40_code nn_dt141 = true := dw_ok (by decide +kernel)
def nn_dt142 : ab_DT := [[(0, .aload_n 0, 1, 0), (1, .getfield 19, 3, 1), (4, .iload_n 1, 1, 0), (5, .invokevirtual 157, 3, 3), (8, .ifCond .eq 21, 3, 2), (11, .aload_n 0, 1, 0), (12, .getfield 19, 3, 1), (15, .iload_n 2, 1, 0)],
  [(16, .invokevirtual 157, 3, 3), (19, .ifCond .eq 10, 3, 2), (22, .iload_n 3, 1, 0), (23, .invokestatic 187, 3, 3), (26, .ifCond .ne 5, 3, 2), (29, .iconst (-1), 1, 0), (30, .ireturn, 1, 6), (31, .aload_n 0, 1, 0)],
  [(32, .getfield 19, 3, 1), (35, .iload_n 1, 1, 0), (36, .iload_n 2, 1, 0), (37, .iload_n 3, 1, 0), (38, .invokevirtual 365, 3, 3), (41, .ireturn, 1, 6)]]
theorem nn_d142 : ab_dtok prog_1_method_41_code nn_dt142 = true := dw_ok (by decide +kernel)
def nn_dt143 : ab_DT := [[(0, .aload_n 0, 1, 0), (1, .getfield 19, 3, 1), (4, .iload_n 1, 1, 0), (5, .invokevirtual 157, 3, 3), (8, .ifCond .eq 23, 3, 2), (11, .aload_n 0, 1, 0), (12, .getfield 19, 3, 1), (15, .iload_n 2, 1, 0)],
  [(16, .invokevirtual 157, 3, 3), (19, .ifCond .eq 12, 3, 2), (22, .aload_n 0, 1, 0), (23, .iload_n 1, 1, 0), (24, .iload_n 2, 1, 0), (25, .invokevirtual 368, 3, 3), (28, .goto 4, 3, 2), (31, .iconst (-1), 1, 0)],
  [(32, .ireturn, 1, 6)]]
theorem nn_d143 : ab_dtok prog_1_method_42_code nn_dt143 = true := dw_ok (by decide +kernel)
def nn_dt144 : ab_DT := [[(0, .bipush 10, 2, 0), (2, .istore_n 3, 1, 0), (3, .aload_n 0, 1, 0), (4, .getfield 19, 3, 1), (7, .getfield 427, 3, 1), (10, .iload_n 1, 1, 0), (11, .invokestatic 180, 3, 3), (14, .istore 4, 2, 0)],
  [(16, .aload_n 0, 1, 0), (17, .getfield 19, 3, 1), (20, .getfield 427, 3, 1), (23, .iload_n 2, 1, 0), (24, .invokestatic 180, 3, 3), (27, .istore 5, 2, 0), (29, .iconst 0, 1, 0), (30, .istore 6, 2, 0)],
  [(32, .iload 6, 2, 0), (34, .iload 4, 2, 0), (36, .if_icmp .gt 165, 3, 2), (39, .iconst 0, 1, 0), (40, .istore 7, 2, 0), (42, .iload 7, 2, 0), (44, .iload 5, 2, 0), (46, .if_icmp .gt 149, 3, 2)],
  [(49, .iload 6, 2, 0), (51, .ifCond .ne 8, 3, 2), (54, .iload 7, 2, 0), (56, .goto 5, 3, 2), (59, .iload 6, 2, 0), (61, .istore 8, 2, 0), (63, .iload 6, 2, 0)],
  [(65, .ifCond .le 108, 3, 2), (68, .iload 7, 2, 0), (70, .ifCond .le 103, 3, 2), (73, .aload_n 0, 1, 0), (74, .getfield 19, 3, 1), (77, .iload_n 1, 1, 0), (78, .iload 6, 2, 0)],
  [(80, .iconst 1, 1, 0), (81, .isub, 1, 0), (82, .iload_n 2, 1, 0), (83, .iload 7, 2, 0), (85, .iconst 1, 1, 0), (86, .isub, 1, 0), (87, .invokevirtual 478, 3, 3), (90, .ifCond .eq 7, 3, 2), (93, .iconst 0, 1, 0), (94, .goto 4, 3, 2)],
  [(97, .iconst 1, 1, 0), (98, .istore 9, 2, 0), (100, .aload_n 0, 1, 0), (101, .getfield 87, 3, 1), (104, .iload 6, 2, 0), (106, .iconst 1, 1, 0), (107, .isub, 1, 0), (108, .iload_n 3, 1, 0), (109, .imul, 1, 0), (110, .iload 7, 2, 0)],
  [(112, .iadd, 1, 0), (113, .iconst 1, 1, 0), (114, .isub, 1, 0), (115, .invokestatic 180, 3, 3), (118, .iload 9, 2, 0), (120, .iadd, 1, 0), (121, .istore 8, 2, 0), (123, .iload 8, 2, 0), (125, .aload_n 0, 1, 0), (126, .getfield 87, 3, 1)],
  [(129, .iload 6, 2, 0), (131, .iconst 1, 1, 0), (132, .isub, 1, 0), (133, .iload_n 3, 1, 0), (134, .imul, 1, 0), (135, .iload 7, 2, 0), (137, .iadd, 1, 0), (138, .invokestatic 180, 3, 3), (141, .iconst 1, 1, 0), (142, .iadd, 1, 0), (143, .invokestatic 481, 3, 3)],
  [(146, .istore 8, 2, 0), (148, .iload 8, 2, 0), (150, .aload_n 0, 1, 0), (151, .getfield 87, 3, 1), (154, .iload 6, 2, 0), (156, .iload_n 3, 1, 0), (157, .imul, 1, 0), (158, .iload 7, 2, 0)],
  [(160, .iadd, 1, 0), (161, .iconst 1, 1, 0), (162, .isub, 1, 0), (163, .invokestatic 180, 3, 3), (166, .iconst 1, 1, 0), (167, .iadd, 1, 0), (168, .invokestatic 481, 3, 3), (171, .istore 8, 2, 0), (173, .aload_n 0, 1, 0), (174, .getfield 87, 3, 1)],
  [(177, .iload 6, 2, 0), (179, .iload_n 3, 1, 0), (180, .imul, 1, 0), (181, .iload 7, 2, 0), (183, .iadd, 1, 0), (184, .iload 8, 2, 0), (186, .invokestatic 346, 3, 3), (189, .iinc 7 1, 3, 0)],
  [(192, .goto (-150), 3, 2), (195, .iinc 6 1, 3, 0), (198, .goto (-166), 3, 2), (201, .aload_n 0, 1, 0), (202, .getfield 87, 3, 1), (205, .iload 4, 2, 0), (207, .iload_n 3, 1, 0)],
  [(208, .imul, 1, 0), (209, .iload 5, 2, 0), (211, .iadd, 1, 0), (212, .invokestatic 180, 3, 3), (215, .ireturn, 1, 6)]]
theorem nn_d144 : ab_dtok prog_1_method_71_code nn_dt144 = true := dw_ok (by decide +kernel)
def nn_dt145 : ab_DT := [[(0, .aload_n 0, 1, 0), (1, .iload_n 1, 1, 0), (2, .iload_n 2, 1, 0), (3, .invokevirtual 103, 3, 3), (6, .aload_n 0, 1, 0), (7, .iload_n 3, 1, 0), (8, .iload 4, 2, 0), (10, .invokevirtual 103, 3, 3), (13, .if_icmp .ne 23, 3, 2)],
  [(16, .aload_n 0, 1, 0), (17, .iload_n 1, 1, 0), (18, .iload_n 2, 1, 0), (19, .invokevirtual 115, 3, 3), (22, .aload_n 0, 1, 0), (23, .iload_n 3, 1, 0), (24, .iload 4, 2, 0), (26, .invokevirtual 115, 3, 3), (29, .if_icmp .ne 7, 3, 2)],
  [(32, .iconst 1, 1, 0), (33, .goto 4, 3, 2), (36, .iconst 0, 1, 0), (37, .ireturn, 1, 6)]]
theorem nn_d145 : ab_dtok prog_8_method_18_code nn_dt145 = true := dw_ok (by decide +kernel)
def nn_dt146 : ab_DT := [[(0, .aload_n 0, 1, 0), (1, .getfield 19, 3, 1), (4, .iload_n 1, 1, 0), (5, .invokevirtual 157, 3, 3), (8, .ifCond .eq 14, 3, 2), (11, .aload_n 0, 1, 0), (12, .getfield 19, 3, 1), (15, .iload_n 2, 1, 0)],
  [(16, .invokevirtual 190, 3, 3), (19, .ifCond .ne 5, 3, 2), (22, .iconst (-1), 1, 0), (23, .ireturn, 1, 6), (24, .aload_n 0, 1, 0), (25, .getfield 19, 3, 1), (28, .iload_n 2, 1, 0), (29, .invokevirtual 169, 3, 3)],
  [(32, .istore_n 3, 1, 0), (33, .iconst (-1), 1, 0), (34, .istore 4, 2, 0), (36, .iconst 0, 1, 0), (37, .istore 5, 2, 0), (39, .iconst 0, 1, 0), (40, .istore 6, 2, 0), (42, .iload 6, 2, 0), (44, .aload_n 0, 1, 0), (45, .getfield 19, 3, 1)],
  [(48, .getfield 317, 3, 1), (51, .if_icmp .ge 54, 3, 2), (54, .iload 6, 2, 0), (56, .iload_n 1, 1, 0), (57, .if_icmp .eq 42, 3, 2), (60, .iload_n 3, 1, 0), (61, .iload 6, 2, 0), (63, .invokestatic 197, 3, 3)],
  [(66, .ifCond .eq 33, 3, 2), (69, .aload_n 0, 1, 0), (70, .iload_n 1, 1, 0), (71, .iload 6, 2, 0), (73, .invokevirtual 368, 3, 3), (76, .istore 7, 2, 0), (78, .iload 4, 2, 0)],
  [(80, .iconst (-1), 1, 0), (81, .if_icmp .eq 10, 3, 2), (84, .iload 7, 2, 0), (86, .iload 5, 2, 0), (88, .if_icmp .ge 11, 3, 2), (91, .iload 6, 2, 0), (93, .istore 4, 2, 0), (95, .iload 7, 2, 0)],
  [(97, .istore 5, 2, 0), (99, .iinc 6 1, 3, 0), (102, .goto (-60), 3, 2), (105, .iload 4, 2, 0), (107, .ireturn, 1, 6)]]
theorem nn_d146 : ab_dtok prog_1_method_43_code nn_dt146 = true := dw_ok (by decide +kernel)
def nn_dt147 : ab_DT := [[(0, .iload_n 2, 1, 0), (1, .invokestatic 160, 3, 3), (4, .ifCond .ne 5, 3, 2), (7, .iconst (-1), 1, 0), (8, .ireturn, 1, 6), (9, .iconst 0, 1, 0), (10, .istore_n 3, 1, 0), (11, .iload_n 3, 1, 0), (12, .aload_n 0, 1, 0), (13, .getfield 19, 3, 1)],
  [(16, .getfield 317, 3, 1), (19, .if_icmp .ge 84, 3, 2), (22, .iconst 0, 1, 0), (23, .istore 4, 2, 0), (25, .iconst 0, 1, 0), (26, .istore 5, 2, 0), (28, .iload 5, 2, 0), (30, .aload_n 0, 1, 0), (31, .getfield 19, 3, 1)],
  [(34, .getfield 317, 3, 1), (37, .if_icmp .ge 52, 3, 2), (40, .aload_n 0, 1, 0), (41, .getfield 19, 3, 1), (44, .iload 5, 2, 0), (46, .iload_n 2, 1, 0), (47, .invokevirtual 163, 3, 3)],
  [(50, .aload_n 0, 1, 0), (51, .getfield 19, 3, 1), (54, .iload_n 3, 1, 0), (55, .iload_n 2, 1, 0), (56, .invokevirtual 163, 3, 3), (59, .invokestatic 371, 3, 3), (62, .istore 6, 2, 0)],
  [(64, .iload 6, 2, 0), (66, .ifCond .lt 14, 3, 2), (69, .iload 6, 2, 0), (71, .ifCond .ne 12, 3, 2), (74, .iload 5, 2, 0), (76, .iload_n 3, 1, 0), (77, .if_icmp .ge 6, 3, 2)],
  [(80, .iinc 4 1, 3, 0), (83, .iinc 5 1, 3, 0), (86, .goto (-58), 3, 2), (89, .iload 4, 2, 0), (91, .iload_n 1, 1, 0), (92, .if_icmp .ne 5, 3, 2), (95, .iload_n 3, 1, 0)],
  [(96, .ireturn, 1, 6), (97, .iinc 3 1, 3, 0), (100, .goto (-89), 3, 2), (103, .iconst (-1), 1, 0), (104, .ireturn, 1, 6)]]
theorem nn_d147 : ab_dtok prog_1_method_44_code nn_dt147 = true := dw_ok (by decide +kernel)
def nn_dt148 : ab_DT := [[(0, .iload_n 0, 1, 0), (1, .iload_n 1, 1, 0), (2, .if_icmp .ge 7, 3, 2), (5, .iconst (-1), 1, 0), (6, .goto 13, 3, 2), (9, .iload_n 0, 1, 0), (10, .iload_n 1, 1, 0), (11, .if_icmp .ne 7, 3, 2), (14, .iconst 0, 1, 0), (15, .goto 4, 3, 2)],
  [(18, .iconst 1, 1, 0), (19, .ireturn, 1, 6)]]
theorem nn_d148 : ab_dtok prog_20_method_40_code nn_dt148 = true := dw_ok (by decide +kernel)
def nn_dt149 : ab_DT := [[(0, .iconst (-1), 1, 0), (1, .istore_n 1, 1, 0), (2, .iconst 0, 1, 0), (3, .istore_n 2, 1, 0), (4, .iconst 0, 1, 0), (5, .istore_n 3, 1, 0), (6, .iload_n 3, 1, 0), (7, .bipush 24, 2, 0), (9, .if_icmp .gt 30, 3, 2), (12, .aload_n 0, 1, 0), (13, .getfield 19, 3, 1)],
  [(16, .iload_n 3, 1, 0), (17, .invokevirtual 374, 3, 3), (20, .istore 4, 2, 0), (22, .iload 4, 2, 0), (24, .iload_n 2, 1, 0), (25, .if_icmp .le 8, 3, 2), (28, .iload_n 3, 1, 0), (29, .istore_n 1, 1, 0), (30, .iload 4, 2, 0)],
  [(32, .istore_n 2, 1, 0), (33, .iinc 3 1, 3, 0), (36, .goto (-30), 3, 2), (39, .iload_n 1, 1, 0), (40, .ireturn, 1, 6)]]
theorem nn_d149 : ab_dtok prog_1_method_45_code nn_dt149 = true := dw_ok (by decide +kernel)
def nn_dt150 : ab_DT := [[(0, .iconst 0, 1, 0), (1, .istore_n 2, 1, 0), (2, .iconst 0, 1, 0), (3, .istore_n 3, 1, 0), (4, .iload_n 3, 1, 0), (5, .aload_n 0, 1, 0), (6, .getfield 54, 3, 1), (9, .if_icmp .ge 50, 3, 2), (12, .iconst 0, 1, 0), (13, .istore 4, 2, 0), (15, .iload 4, 2, 0)],
  [(17, .aload_n 0, 1, 0), (18, .getfield 18, 3, 1), (21, .iload_n 3, 1, 0), (22, .invokestatic 92, 3, 3), (25, .if_icmp .ge 28, 3, 2), (28, .iload_n 2, 1, 0), (29, .aload_n 0, 1, 0), (30, .iload_n 3, 1, 0), (31, .iload 4, 2, 0)],
  [(33, .invokevirtual 103, 3, 3), (36, .iload_n 1, 1, 0), (37, .if_icmp .ne 7, 3, 2), (40, .iconst 1, 1, 0), (41, .goto 4, 3, 2), (44, .iconst 0, 1, 0), (45, .iadd, 1, 0), (46, .istore_n 2, 1, 0), (47, .iinc 4 1, 3, 0)],
  [(50, .goto (-35), 3, 2), (53, .iinc 3 1, 3, 0), (56, .goto (-52), 3, 2), (59, .iload_n 2, 1, 0), (60, .ireturn, 1, 6)]]
theorem nn_d150 : ab_dtok prog_8_method_16_code nn_dt150 = true := dw_ok (by decide +kernel)
def nn_dt151 : ab_DT := [[(0, .iconst (-1), 1, 0), (1, .istore_n 1, 1, 0), (2, .iconst 0, 1, 0), (3, .istore_n 2, 1, 0), (4, .iload_n 2, 1, 0), (5, .iconst 1, 1, 0), (6, .aload_n 0, 1, 0), (7, .getfield 19, 3, 1), (10, .getfield 269, 3, 1), (13, .ishl, 1, 0), (14, .if_icmp .ge 83, 3, 2)],
  [(17, .iconst 0, 1, 0), (18, .istore_n 3, 1, 0), (19, .iconst 0, 1, 0), (20, .istore 4, 2, 0), (22, .iload 4, 2, 0), (24, .aload_n 0, 1, 0), (25, .getfield 19, 3, 1), (28, .getfield 269, 3, 1), (31, .if_icmp .ge 34, 3, 2)],
  [(34, .iload_n 3, 1, 0), (35, .iload_n 2, 1, 0), (36, .iload 4, 2, 0), (38, .invokestatic 197, 3, 3), (41, .ifCond .eq 15, 3, 2), (44, .aload_n 0, 1, 0), (45, .getfield 19, 3, 1)],
  [(48, .iload 4, 2, 0), (50, .invokevirtual 169, 3, 3), (53, .goto 4, 3, 2), (56, .iconst 0, 1, 0), (57, .ior, 1, 0), (58, .istore_n 3, 1, 0), (59, .iinc 4 1, 3, 0), (62, .goto (-40), 3, 2)],
  [(65, .iload_n 3, 1, 0), (66, .aload_n 0, 1, 0), (67, .getfield 19, 3, 1), (70, .invokevirtual 262, 3, 3), (73, .if_icmp .ne 18, 3, 2), (76, .iload_n 1, 1, 0), (77, .iconst (-1), 1, 0), (78, .if_icmp .eq 11, 3, 2)],
  [(81, .iload_n 2, 1, 0), (82, .iload_n 1, 1, 0), (83, .invokestatic 336, 3, 3), (86, .ifCond .eq 5, 3, 2), (89, .iload_n 2, 1, 0), (90, .istore_n 1, 1, 0), (91, .iinc 2 1, 3, 0), (94, .goto (-90), 3, 2)],
  [(97, .iload_n 1, 1, 0), (98, .ireturn, 1, 6)]]
theorem nn_d151 : ab_dtok prog_1_method_46_code nn_dt151 = true := dw_ok (by decide +kernel)
def nn_dt152 : ab_DT := [[(0, .aload_n 0, 1, 0), (1, .getfield 48, 3, 1), (4, .aload_n 0, 1, 0), (5, .getfield 10, 3, 1), (8, .aload_n 0, 1, 0), (9, .getfield 19, 3, 1), (12, .invokevirtual 377, 3, 3), (15, .istore_n 1, 1, 0)],
  [(16, .aload_n 0, 1, 0), (17, .getfield 10, 3, 1), (20, .iconst 0, 1, 0), (21, .putfield 116, 3, 1), (24, .iload_n 1, 1, 0), (25, .ifCond .eq 17, 3, 2), (28, .aload_n 0, 1, 0), (29, .getfield 48, 3, 1)],
  [(32, .aload_n 0, 1, 0), (33, .getfield 19, 3, 1), (36, .invokevirtual 380, 3, 3), (39, .goto 13, 3, 2), (42, .bipush (-2), 2, 0), (44, .aload_n 0, 1, 0), (45, .getfield 10, 3, 1)],
  [(48, .getfield 122, 3, 1), (51, .isub, 1, 0), (52, .ireturn, 1, 6)]]
theorem nn_d152 : ab_dtok prog_1_method_47_code nn_dt152 = true := dw_ok (by decide +kernel)
def nn_dt153 : ab_DT := [[(0, .aload_n 0, 1, 0), (1, .iconst 0, 1, 0), (2, .putfield 21, 3, 1), (5, .aload_n 1, 1, 0), (6, .sipush 400, 3, 0), (9, .invokevirtual 25, 3, 3), (12, .aload_n 1, 1, 0), (13, .getstatic 31, 3, 4)],
  [(16, .invokevirtual 37, 3, 3), (19, .ifCond .ne 9, 3, 2), (22, .aload_n 1, 1, 0), (23, .iconst 1, 1, 0), (24, .invokevirtual 41, 3, 3), (27, .ireturn, 1, 6), (28, .aload_n 1, 1, 0), (29, .invokevirtual 45, 3, 3)],
  [(32, .aload_n 0, 1, 0), (33, .aload_n 1, 1, 0), (34, .aload_n 2, 1, 0), (35, .getfield 48, 3, 1), (38, .aload_n 2, 1, 0), (39, .getfield 54, 3, 1), (42, .invokevirtual 57, 3, 3), (45, .putfield 61, 3, 1)],
  [(48, .aload_n 0, 1, 0), (49, .getfield 61, 3, 1), (52, .iconst (-1), 1, 0), (53, .if_icmp .ne 5, 3, 2), (56, .iconst 0, 1, 0), (57, .ireturn, 1, 6), (58, .aload_n 1, 1, 0), (59, .invokevirtual 45, 3, 3), (62, .aload_n 1, 1, 0), (63, .bipush 59, 2, 0)],
  [(65, .invokevirtual 64, 3, 3), (68, .istore_n 3, 1, 0), (69, .iconst 0, 1, 0), (70, .istore 4, 2, 0), (72, .iload 4, 2, 0), (74, .sipush 400, 3, 0), (77, .if_icmp .ge 44, 3, 2)],
  [(80, .iload_n 3, 1, 0), (81, .ifCond .eq 40, 3, 2), (84, .aload_n 1, 1, 0), (85, .getfield 67, 3, 1), (88, .ifCond .eq 33, 3, 2), (91, .aload_n 0, 1, 0), (92, .aload_n 1, 1, 0), (93, .aload_n 2, 1, 0), (94, .invokevirtual 70, 3, 3)],
  [(97, .ifCond .eq 16, 3, 2), (100, .aload_n 1, 1, 0), (101, .bipush 59, 2, 0), (103, .invokevirtual 64, 3, 3), (106, .ifCond .eq 7, 3, 2), (109, .iconst 1, 1, 0), (110, .goto 4, 3, 2)],
  [(113, .iconst 0, 1, 0), (114, .istore_n 3, 1, 0), (115, .iinc 4 1, 3, 0), (118, .goto (-46), 3, 2), (121, .iload_n 3, 1, 0), (122, .ireturn, 1, 6)]]
theorem nn_d153 : ab_dtok prog_4_method_2_code nn_dt153 = true := dw_ok (by decide +kernel)
def nn_dt154 : ab_DT := [[(0, .aload_n 1, 1, 0), (1, .aload_n 2, 1, 0), (2, .getfield 74, 3, 1), (5, .aload_n 2, 1, 0), (6, .getfield 77, 3, 1), (9, .invokevirtual 57, 3, 3), (12, .istore_n 3, 1, 0), (13, .iload_n 3, 1, 0), (14, .iconst (-1), 1, 0), (15, .if_icmp .ne 5, 3, 2)],
  [(18, .iconst 0, 1, 0), (19, .ireturn, 1, 6), (20, .aload_n 1, 1, 0), (21, .invokevirtual 45, 3, 3), (24, .aload_n 1, 1, 0), (25, .getstatic 80, 3, 4), (28, .invokevirtual 37, 3, 3), (31, .istore 4, 2, 0)],
  [(33, .iload 4, 2, 0), (35, .ifCond .ne 15, 3, 2), (38, .aload_n 1, 1, 0), (39, .iconst 1, 1, 0), (40, .bipush 9, 2, 0), (42, .invokevirtual 83, 3, 3), (45, .ifCond .ne 5, 3, 2)],
  [(48, .iconst 0, 1, 0), (49, .ireturn, 1, 6), (50, .aload_n 0, 1, 0), (51, .getfield 11, 3, 1), (54, .aload_n 0, 1, 0), (55, .getfield 21, 3, 1), (58, .iload_n 3, 1, 0), (59, .invokestatic 87, 3, 3), (62, .aload_n 0, 1, 0), (63, .getfield 15, 3, 1)],
  [(66, .aload_n 0, 1, 0), (67, .getfield 21, 3, 1), (70, .iload 4, 2, 0), (72, .ifCond .eq 7, 3, 2), (75, .iconst 0, 1, 0), (76, .goto 7, 3, 2), (79, .aload_n 1, 1, 0)],
  [(80, .getfield 91, 3, 1), (83, .invokestatic 87, 3, 3), (86, .aload_n 0, 1, 0), (87, .dup, 1, 0), (88, .getfield 21, 3, 1), (91, .iconst 1, 1, 0), (92, .iadd, 1, 0), (93, .putfield 21, 3, 1)],
  [(96, .aload_n 1, 1, 0), (97, .invokevirtual 45, 3, 3), (100, .iconst 1, 1, 0), (101, .ireturn, 1, 6)]]
theorem nn_d154 : ab_dtok prog_4_method_3_code nn_dt154 = true := dw_ok (by decide +kernel)
def nn_dt155 : ab_DT := [[(0, .aload_n 0, 1, 0), (1, .iconst 1, 1, 0), (2, .putfield 94, 3, 1), (5, .aload_n 0, 1, 0), (6, .aload_n 0, 1, 0), (7, .getfield 61, 3, 1), (10, .putfield 98, 3, 1), (13, .aload_n 0, 1, 0), (14, .aload_n 1, 1, 0), (15, .getfield 101, 3, 1)],
  [(18, .putfield 104, 3, 1), (21, .aload_n 0, 1, 0), (22, .getfield 18, 3, 1), (25, .iconst 0, 1, 0), (26, .iconst 0, 1, 0), (27, .iastore, 1, 1), (28, .aload_n 0, 1, 0), (29, .getfield 18, 3, 1)],
  [(32, .iconst 1, 1, 0), (33, .iconst 0, 1, 0), (34, .iastore, 1, 1), (35, .aload_n 0, 1, 0), (36, .getfield 18, 3, 1), (39, .iconst 2, 1, 0), (40, .iconst (-1), 1, 0), (41, .iastore, 1, 1), (42, .aload_n 0, 1, 0), (43, .getfield 18, 3, 1), (46, .iconst 3, 1, 0), (47, .iconst (-1), 1, 0)],
  [(48, .iastore, 1, 1), (49, .aload_n 0, 1, 0), (50, .getfield 18, 3, 1), (53, .iconst 4, 1, 0), (54, .iconst (-1), 1, 0), (55, .iastore, 1, 1), (56, .iconst (-1), 1, 0), (57, .istore_n 2, 1, 0), (58, .iconst 0, 1, 0), (59, .istore_n 3, 1, 0), (60, .iload_n 3, 1, 0), (61, .aload_n 0, 1, 0), (62, .getfield 21, 3, 1)],
  [(65, .if_icmp .ge 109, 3, 2), (68, .aload_n 0, 1, 0), (69, .getfield 11, 3, 1), (72, .iload_n 3, 1, 0), (73, .invokestatic 105, 3, 3), (76, .istore 4, 2, 0), (78, .aload_n 0, 1, 0), (79, .getfield 15, 3, 1)],
  [(82, .iload_n 3, 1, 0), (83, .invokestatic 105, 3, 3), (86, .istore 5, 2, 0), (88, .aload_n 0, 1, 0), (89, .getfield 18, 3, 1), (92, .iconst 0, 1, 0), (93, .aload_n 0, 1, 0), (94, .iload 4, 2, 0)],
  [(96, .iload 5, 2, 0), (98, .aload_n 1, 1, 0), (99, .getfield 109, 3, 1), (102, .invokevirtual 112, 3, 3), (105, .iastore, 1, 1), (106, .aload_n 0, 1, 0), (107, .getfield 18, 3, 1), (110, .iconst 0, 1, 0), (111, .iaload, 1, 1)],
  [(112, .ifCond .eq 7, 3, 2), (115, .iload_n 3, 1, 0), (116, .iconst 1, 1, 0), (117, .iadd, 1, 0), (118, .ireturn, 1, 6), (119, .iload 5, 2, 0), (121, .ifCond .ne 21, 3, 2), (124, .aload_n 0, 1, 0), (125, .getfield 18, 3, 1)],
  [(128, .iconst 3, 1, 0), (129, .iload 4, 2, 0), (131, .iastore, 1, 1), (132, .aload_n 0, 1, 0), (133, .getfield 18, 3, 1), (136, .iconst 4, 1, 0), (137, .iconst (-1), 1, 0), (138, .iastore, 1, 1), (139, .goto 29, 3, 2), (142, .aload_n 0, 1, 0), (143, .getfield 18, 3, 1)],
  [(146, .iconst 1, 1, 0), (147, .iload 5, 2, 0), (149, .iastore, 1, 1), (150, .aload_n 0, 1, 0), (151, .getfield 18, 3, 1), (154, .iconst 2, 1, 0), (155, .iload 4, 2, 0), (157, .iastore, 1, 1), (158, .aload_n 0, 1, 0), (159, .getfield 18, 3, 1)],
  [(162, .iconst 4, 1, 0), (163, .iload_n 2, 1, 0), (164, .iastore, 1, 1), (165, .iload 4, 2, 0), (167, .istore_n 2, 1, 0), (168, .iinc 3 1, 3, 0), (171, .goto (-111), 3, 2), (174, .iconst (-1), 1, 0), (175, .ireturn, 1, 6)]]
theorem nn_d155 : ab_dtok prog_4_method_4_code nn_dt155 = true := dw_ok (by decide +kernel)
def nn_dt156 : ab_DT := [[(0, .aload_n 0, 1, 0), (1, .getfield 18, 3, 1), (4, .iconst 3, 1, 0), (5, .iaload, 1, 1), (6, .iconst (-1), 1, 0), (7, .if_icmp .eq 5, 3, 2), (10, .iconst 1, 1, 0), (11, .ireturn, 1, 6), (12, .aload_n 0, 1, 0), (13, .getfield 18, 3, 1)],
  [(16, .iconst 4, 1, 0), (17, .iaload, 1, 1), (18, .iconst (-1), 1, 0), (19, .if_icmp .ne 21, 3, 2), (22, .iload_n 1, 1, 0), (23, .aload_n 0, 1, 0), (24, .getfield 18, 3, 1), (27, .iconst 2, 1, 0), (28, .iaload, 1, 1), (29, .if_icmp .ne 7, 3, 2)],
  [(32, .iconst 1, 1, 0), (33, .goto 22, 3, 2), (36, .iconst 0, 1, 0), (37, .goto 18, 3, 2), (40, .iload_n 1, 1, 0), (41, .aload_n 0, 1, 0), (42, .getfield 18, 3, 1), (45, .iconst 4, 1, 0), (46, .iaload, 1, 1), (47, .if_icmp .eq 7, 3, 2)],
  [(50, .iconst 1, 1, 0), (51, .goto 4, 3, 2), (54, .iconst 0, 1, 0), (55, .istore 4, 2, 0), (57, .iload 4, 2, 0), (59, .ifCond .eq 5, 3, 2), (62, .iconst 2, 1, 0), (63, .ireturn, 1, 6)],
  [(64, .iload_n 2, 1, 0), (65, .ifCond .ne 18, 3, 2), (68, .aload_n 0, 1, 0), (69, .getfield 18, 3, 1), (72, .iconst 1, 1, 0), (73, .iaload, 1, 1), (74, .ifCond .ne 7, 3, 2), (77, .iconst 4, 1, 0), (78, .goto 4, 3, 2)],
  [(81, .iconst 0, 1, 0), (82, .ireturn, 1, 6), (83, .aload_n 0, 1, 0), (84, .getfield 18, 3, 1), (87, .iconst 1, 1, 0), (88, .iaload, 1, 1), (89, .ifCond .ne 16, 3, 2), (92, .iload_n 2, 1, 0), (93, .iload_n 3, 1, 0), (94, .if_icmp .le 7, 3, 2)],
  [(97, .iconst 1, 1, 0), (98, .goto 22, 3, 2), (101, .iconst 0, 1, 0), (102, .goto 18, 3, 2), (105, .iload_n 2, 1, 0), (106, .aload_n 0, 1, 0), (107, .getfield 18, 3, 1), (110, .iconst 1, 1, 0), (111, .iaload, 1, 1)],
  [(112, .if_icmp .lt 7, 3, 2), (115, .iconst 1, 1, 0), (116, .goto 4, 3, 2), (119, .iconst 0, 1, 0), (120, .istore 5, 2, 0), (122, .iload 5, 2, 0), (124, .ifCond .eq 7, 3, 2), (127, .iconst 3, 1, 0)],
  [(128, .goto 4, 3, 2), (131, .iconst 0, 1, 0), (132, .ireturn, 1, 6)]]
theorem nn_d156 : ab_dtok prog_4_method_5_code nn_dt156 = true := dw_ok (by decide +kernel)
def nn_dt157 : ab_DT := [[(0, .aload_n 0, 1, 0), (1, .getfield 48, 3, 1), (4, .getfield 384, 3, 1), (7, .ifCond .eq 31, 3, 2), (10, .iload_n 1, 1, 0), (11, .ifCond .lt 27, 3, 2), (14, .iload_n 1, 1, 0), (15, .aload_n 0, 1, 0)],
  [(16, .getfield 48, 3, 1), (19, .getfield 387, 3, 1), (22, .arraylength, 1, 1), (23, .if_icmp .ge 15, 3, 2), (26, .aload_n 0, 1, 0), (27, .getfield 48, 3, 1), (30, .getfield 387, 3, 1)],
  [(33, .iload_n 1, 1, 0), (34, .iaload, 1, 1), (35, .goto 4, 3, 2), (38, .iconst (-1), 1, 0), (39, .ireturn, 1, 6)]]
theorem nn_d157 : ab_dtok prog_1_method_48_code nn_dt157 = true := dw_ok (by decide +kernel)
def nn_dt158 : ab_DT := [[(0, .aload_n 0, 1, 0), (1, .iload_n 1, 1, 0), (2, .iload_n 2, 1, 0), (3, .invokevirtual 405, 3, 3), (6, .ifCond .ne 6, 3, 2), (9, .bipush (-2), 2, 0), (11, .ireturn, 1, 6), (12, .aload_n 0, 1, 0), (13, .getfield 69, 3, 1)],
  [(16, .aload_n 0, 1, 0), (17, .getfield 19, 3, 1), (20, .iload_n 1, 1, 0), (21, .iload_n 2, 1, 0), (22, .iload_n 3, 1, 0), (23, .invokevirtual 408, 3, 3), (26, .aload_n 0, 1, 0), (27, .iconst 1, 1, 0), (28, .putfield 100, 3, 1), (31, .aload_n 0, 1, 0)],
  [(32, .getfield 97, 3, 1), (35, .iconst 0, 1, 0), (36, .aload_n 0, 1, 0), (37, .getfield 69, 3, 1), (40, .getfield 412, 3, 1), (43, .iastore, 1, 1), (44, .aload_n 0, 1, 0), (45, .getfield 97, 3, 1)],
  [(48, .iconst 1, 1, 0), (49, .aload_n 0, 1, 0), (50, .getfield 69, 3, 1), (53, .getfield 415, 3, 1), (56, .iconst 0, 1, 0), (57, .iaload, 1, 1), (58, .iastore, 1, 1), (59, .aload_n 0, 1, 0), (60, .getfield 97, 3, 1), (63, .iconst 2, 1, 0)],
  [(64, .aload_n 0, 1, 0), (65, .getfield 69, 3, 1), (68, .getfield 415, 3, 1), (71, .iconst 1, 1, 0), (72, .iaload, 1, 1), (73, .iastore, 1, 1), (74, .aload_n 0, 1, 0), (75, .getfield 97, 3, 1), (78, .iconst 3, 1, 0), (79, .aload_n 0, 1, 0)],
  [(80, .getfield 69, 3, 1), (83, .getfield 418, 3, 1), (86, .iastore, 1, 1), (87, .aload_n 0, 1, 0), (88, .getfield 97, 3, 1), (91, .iconst 4, 1, 0), (92, .aload_n 0, 1, 0), (93, .getfield 69, 3, 1)],
  [(96, .getfield 421, 3, 1), (99, .iastore, 1, 1), (100, .aload_n 0, 1, 0), (101, .getfield 69, 3, 1), (104, .invokevirtual 424, 3, 3), (107, .ifCond .eq 7, 3, 2), (110, .iconst 1, 1, 0), (111, .goto 4, 3, 2)],
  [(114, .iconst (-1), 1, 0), (115, .ireturn, 1, 6)]]
theorem nn_d158 : ab_dtok prog_1_method_50_code nn_dt158 = true := dw_ok (by decide +kernel)
def nn_dt159 : ab_DT := [[(0, .aload_n 0, 1, 0), (1, .getfield 19, 3, 1), (4, .iload_n 1, 1, 0), (5, .invokevirtual 173, 3, 3), (8, .ifCond .eq 33, 3, 2), (11, .aload_n 0, 1, 0), (12, .getfield 19, 3, 1), (15, .iload_n 2, 1, 0)],
  [(16, .invokevirtual 173, 3, 3), (19, .ifCond .eq 22, 3, 2), (22, .iload_n 1, 1, 0), (23, .iload_n 2, 1, 0), (24, .if_icmp .eq 17, 3, 2), (27, .aload_n 0, 1, 0), (28, .getfield 19, 3, 1), (31, .getfield 269, 3, 1)],
  [(34, .ifCond .le 7, 3, 2), (37, .iconst 1, 1, 0), (38, .goto 4, 3, 2), (41, .iconst 0, 1, 0), (42, .ireturn, 1, 6)]]
theorem nn_d159 : ab_dtok prog_1_method_63_code nn_dt159 = true := dw_ok (by decide +kernel)
def nn_DT_120 : List ab_DT := [nn_dt120, nn_dt121, nn_dt122, nn_dt123, nn_dt124, nn_dt125, nn_dt126, nn_dt127, nn_dt128, nn_dt129, nn_dt130, nn_dt131, nn_dt132, nn_dt133, nn_dt134, nn_dt135, nn_dt136, nn_dt137, nn_dt138, nn_dt139, nn_dt140, nn_dt141, nn_dt142, nn_dt143, nn_dt144, nn_dt145, nn_dt146, nn_dt147, nn_dt148, nn_dt149, nn_dt150, nn_dt151, nn_dt152, nn_dt153, nn_dt154, nn_dt155, nn_dt156, nn_dt157, nn_dt158, nn_dt159]
theorem nn_DT_120_ok : ab_dtP nn_MT_120 nn_DT_120 := ⟨nn_d120, nn_d121, nn_d122, nn_d123, nn_d124, nn_d125, nn_d126, nn_d127, nn_d128, nn_d129, nn_d130, nn_d131, nn_d132, nn_d133, nn_d134, nn_d135, nn_d136, nn_d137, nn_d138, nn_d139, nn_d140, nn_d141, nn_d142, nn_d143, nn_d144, nn_d145, nn_d146, nn_d147, nn_d148, nn_d149, nn_d150, nn_d151, nn_d152, nn_d153, nn_d154, nn_d155, nn_d156, nn_d157, nn_d158, nn_d159, trivial⟩
end
section
def nn_dt160 : ab_DT := [[(0, .aload_n 0, 1, 0), (1, .getfield 9, 3, 1), (4, .iconst 0, 1, 0), (5, .iload_n 2, 1, 0), (6, .iastore, 1, 1), (7, .aload_n 0, 1, 0), (8, .getfield 9, 3, 1), (11, .iconst 1, 1, 0), (12, .iload_n 3, 1, 0), (13, .iastore, 1, 1), (14, .aload_n 0, 1, 0), (15, .getfield 15, 3, 1)],
  [(18, .iconst 0, 1, 0), (19, .iconst 0, 1, 0), (20, .iastore, 1, 1), (21, .aload_n 0, 1, 0), (22, .getfield 15, 3, 1), (25, .iconst 1, 1, 0), (26, .iconst 0, 1, 0), (27, .iastore, 1, 1), (28, .aload_n 0, 1, 0), (29, .iload 4, 2, 0), (31, .putfield 21, 3, 1)],
  [(34, .aload_n 0, 1, 0), (35, .iconst 0, 1, 0), (36, .putfield 25, 3, 1), (39, .aload_n 0, 1, 0), (40, .iconst 0, 1, 0), (41, .putfield 28, 3, 1), (44, .aload_n 0, 1, 0), (45, .bipush 9, 2, 0), (47, .putfield 31, 3, 1)],
  [(50, .iconst 0, 1, 0), (51, .istore 5, 2, 0), (53, .iload 5, 2, 0), (55, .iconst 5, 1, 0), (56, .if_icmp .ge 48, 3, 2), (59, .aload_n 0, 1, 0), (60, .getfield 15, 3, 1), (63, .iconst 0, 1, 0)],
  [(64, .iaload, 1, 1), (65, .iconst 3, 1, 0), (66, .if_icmp .ge 38, 3, 2), (69, .aload_n 0, 1, 0), (70, .getfield 15, 3, 1), (73, .iconst 1, 1, 0), (74, .iaload, 1, 1), (75, .iconst 3, 1, 0), (76, .if_icmp .ge 28, 3, 2), (79, .aload_n 0, 1, 0)],
  [(80, .aload_n 1, 1, 0), (81, .iload 5, 2, 0), (83, .iconst 2, 1, 0), (84, .irem, 1, 0), (85, .invokevirtual 34, 3, 3), (88, .aload_n 0, 1, 0), (89, .dup, 1, 0), (90, .getfield 25, 3, 1), (93, .iconst 1, 1, 0), (94, .iadd, 1, 0), (95, .putfield 25, 3, 1)],
  [(98, .iinc 5 1, 3, 0), (101, .goto (-48), 3, 2), (104, .return_, 1, 6)]]
theorem nn_d160 : ab_dtok prog_6_method_2_code nn_dt160 = true := dw_ok (by decide +kernel)
def nn_dt161 : ab_DT := [[(0, .aload_n 1, 1, 0), (1, .aload_n 0, 1, 0), (2, .aload_n 1, 1, 0), (3, .getfield 38, 3, 1), (6, .invokevirtual 43, 3, 3), (9, .invokevirtual 47, 3, 3), (12, .istore_n 3, 1, 0), (13, .aload_n 0, 1, 0), (14, .iload_n 3, 1, 0), (15, .invokevirtual 50, 3, 3)],
  [(18, .istore 4, 2, 0), (20, .aload_n 0, 1, 0), (21, .aload_n 1, 1, 0), (22, .iconst 0, 1, 0), (23, .iload_n 3, 1, 0), (24, .invokevirtual 53, 3, 3), (27, .aload_n 0, 1, 0), (28, .aload_n 1, 1, 0), (29, .iconst 1, 1, 0), (30, .iload_n 3, 1, 0), (31, .invokevirtual 53, 3, 3)],
  [(34, .aload_n 1, 1, 0), (35, .getfield 57, 3, 1), (38, .istore 5, 2, 0), (40, .iload_n 2, 1, 0), (41, .istore 6, 2, 0), (43, .iconst 0, 1, 0), (44, .istore 7, 2, 0), (46, .iload 7, 2, 0)],
  [(48, .bipush 9, 2, 0), (50, .if_icmp .ge 36, 3, 2), (53, .aload_n 0, 1, 0), (54, .aload_n 1, 1, 0), (55, .iconst 1, 1, 0), (56, .iload 6, 2, 0), (58, .isub, 1, 0), (59, .iload 4, 2, 0), (61, .iload 5, 2, 0), (63, .iconst 1, 1, 0)],
  [(64, .isub, 1, 0), (65, .invokevirtual 60, 3, 3), (68, .ifCond .eq 18, 3, 2), (71, .iinc 5 (-1), 3, 0), (74, .iconst 1, 1, 0), (75, .iload 6, 2, 0), (77, .isub, 1, 0), (78, .istore 6, 2, 0)],
  [(80, .iinc 7 1, 3, 0), (83, .goto (-37), 3, 2), (86, .aload_n 0, 1, 0), (87, .aload_n 0, 1, 0), (88, .getfield 31, 3, 1), (91, .iload 5, 2, 0), (93, .invokestatic 64, 3, 3)],
  [(96, .putfield 31, 3, 1), (99, .aload_n 1, 1, 0), (100, .iload 4, 2, 0), (102, .iload 5, 2, 0), (104, .iconst 0, 1, 0), (105, .aload_n 0, 1, 0), (106, .getfield 18, 3, 1), (109, .iload 6, 2, 0), (111, .invokestatic 70, 3, 3)],
  [(114, .invokevirtual 74, 3, 3), (117, .istore 7, 2, 0), (119, .iload 7, 2, 0), (121, .ifCond .eq 18, 3, 2), (124, .aload_n 0, 1, 0), (125, .iload 7, 2, 0), (127, .invokevirtual 50, 3, 3)],
  [(130, .iload 4, 2, 0), (132, .if_icmp .ne 7, 3, 2), (135, .iconst 1, 1, 0), (136, .goto 4, 3, 2), (139, .iconst 0, 1, 0), (140, .istore 8, 2, 0), (142, .aload_n 0, 1, 0), (143, .dup, 1, 0)],
  [(144, .getfield 28, 3, 1), (147, .iload 8, 2, 0), (149, .ifCond .eq 7, 3, 2), (152, .iconst 1, 1, 0), (153, .goto 4, 3, 2), (156, .iconst 0, 1, 0), (157, .iadd, 1, 0), (158, .putfield 28, 3, 1)],
  [(161, .iload 8, 2, 0), (163, .ifCond .eq 8, 3, 2), (166, .iload 6, 2, 0), (168, .goto 7, 3, 2), (171, .iconst 1, 1, 0), (172, .iload 6, 2, 0), (174, .isub, 1, 0), (175, .istore 9, 2, 0)],
  [(177, .aload_n 0, 1, 0), (178, .getfield 15, 3, 1), (181, .iload 9, 2, 0), (183, .aload_n 0, 1, 0), (184, .getfield 15, 3, 1), (187, .iload 9, 2, 0), (189, .invokestatic 70, 3, 3)],
  [(192, .iconst 1, 1, 0), (193, .iadd, 1, 0), (194, .invokestatic 78, 3, 3), (197, .return_, 1, 6)]]
theorem nn_d161 : ab_dtok prog_6_method_4_code nn_dt161 = true := dw_ok (by decide +kernel)
def nn_dt162 : ab_DT := [[(0, .aload_n 0, 1, 0), (1, .aload_n 0, 1, 0), (2, .getfield 21, 3, 1), (5, .ldc 100, 2, 0), (7, .imul, 1, 0), (8, .sipush 12345, 3, 0), (11, .iadd, 1, 0), (12, .putfield 21, 3, 1), (15, .iload_n 1, 1, 0)],
  [(16, .ifCond .le 15, 3, 2), (19, .aload_n 0, 1, 0), (20, .getfield 21, 3, 1), (23, .bipush 8, 2, 0), (25, .iushr, 1, 0), (26, .iload_n 1, 1, 0), (27, .irem, 1, 0), (28, .goto 4, 3, 2), (31, .iconst 0, 1, 0)],
  [(32, .ireturn, 1, 6)]]
theorem nn_d162 : ab_dtok prog_6_method_8_code nn_dt162 = true := dw_ok (by decide +kernel)
def nn_dt163 : ab_DT := [[(0, .iload_n 1, 1, 0), (1, .aload_n 0, 1, 0), (2, .iload_n 1, 1, 0), (3, .invokestatic 89, 3, 3), (6, .invokevirtual 43, 3, 3), (9, .invokestatic 97, 3, 3), (12, .ireturn, 1, 6)]]
theorem nn_d163 : ab_dtok prog_6_method_7_code nn_dt163 = true := dw_ok (by decide +kernel)
def nn_dt164 : ab_DT := [[(0, .iconst 0, 1, 0), (1, .istore_n 2, 1, 0), (2, .iconst 0, 1, 0), (3, .istore_n 3, 1, 0), (4, .iload_n 3, 1, 0), (5, .bipush 9, 2, 0), (7, .if_icmp .ge 27, 3, 2), (10, .iload_n 0, 1, 0), (11, .iload_n 3, 1, 0), (12, .invokestatic 197, 3, 3), (15, .ifCond .eq 13, 3, 2)],
  [(18, .iload_n 2, 1, 0), (19, .iload_n 1, 1, 0), (20, .if_icmp .ne 5, 3, 2), (23, .iload_n 3, 1, 0), (24, .ireturn, 1, 6), (25, .iinc 2 1, 3, 0), (28, .iinc 3 1, 3, 0), (31, .goto (-27), 3, 2)],
  [(34, .iconst (-1), 1, 0), (35, .ireturn, 1, 6)]]
theorem nn_d164 : ab_dtok prog_1_method_83_code nn_dt164 = true := dw_ok (by decide +kernel)
def nn_dt165 : ab_DT := [[(0, .iconst 0, 1, 0), (1, .istore 4, 2, 0), (3, .iconst 0, 1, 0), (4, .istore 5, 2, 0), (6, .iload 5, 2, 0), (8, .bipush 9, 2, 0), (10, .if_icmp .ge 50, 3, 2), (13, .iload_n 3, 1, 0), (14, .iload 5, 2, 0)],
  [(16, .invokestatic 82, 3, 3), (19, .ifCond .eq 35, 3, 2), (22, .aload_n 0, 1, 0), (23, .bipush 9, 2, 0), (25, .invokevirtual 43, 3, 3), (28, .aload_n 1, 1, 0), (29, .aload_n 0, 1, 0), (30, .getfield 9, 3, 1)],
  [(33, .iload_n 2, 1, 0), (34, .invokestatic 70, 3, 3), (37, .iload 5, 2, 0), (39, .invokevirtual 86, 3, 3), (42, .if_icmp .ge 12, 3, 2), (45, .iload 4, 2, 0), (47, .iconst 1, 1, 0)],
  [(48, .iload 5, 2, 0), (50, .ishl, 1, 0), (51, .ior, 1, 0), (52, .istore 4, 2, 0), (54, .iinc 5 1, 3, 0), (57, .goto (-51), 3, 2), (60, .aload_n 0, 1, 0), (61, .getfield 18, 3, 1)],
  [(64, .iload_n 2, 1, 0), (65, .iload 4, 2, 0), (67, .invokestatic 78, 3, 3), (70, .return_, 1, 6)]]
theorem nn_d165 : ab_dtok prog_6_method_5_code nn_dt165 = true := dw_ok (by decide +kernel)
def nn_dt166 : ab_DT := [[(0, .aload_n 0, 1, 0), (1, .getfield 18, 3, 1), (4, .iload_n 2, 1, 0), (5, .invokestatic 70, 3, 3), (8, .istore 5, 2, 0), (10, .iload 4, 2, 0), (12, .iconst 1, 1, 0), (13, .if_icmp .lt 12, 3, 2)],
  [(16, .iload 5, 2, 0), (18, .iload_n 3, 1, 0), (19, .invokestatic 82, 3, 3), (22, .ifCond .ne 5, 3, 2), (25, .iconst 0, 1, 0), (26, .ireturn, 1, 6), (27, .aload_n 1, 1, 0), (28, .iload_n 3, 1, 0), (29, .iload 4, 2, 0), (31, .iconst 0, 1, 0)],
  [(32, .iload 5, 2, 0), (34, .invokevirtual 74, 3, 3), (37, .invokestatic 89, 3, 3), (40, .iconst 1, 1, 0), (41, .isub, 1, 0), (42, .istore 6, 2, 0), (44, .iload 6, 2, 0), (46, .bipush 9, 2, 0)],
  [(48, .aload_n 1, 1, 0), (49, .getfield 94, 3, 1), (52, .aload_n 0, 1, 0), (53, .getfield 9, 3, 1), (56, .iload_n 2, 1, 0), (57, .invokestatic 70, 3, 3), (60, .invokestatic 70, 3, 3), (63, .isub, 1, 0)],
  [(64, .if_icmp .gt 7, 3, 2), (67, .iconst 1, 1, 0), (68, .goto 4, 3, 2), (71, .iconst 0, 1, 0), (72, .ireturn, 1, 6)]]
theorem nn_d166 : ab_dtok prog_6_method_6_code nn_dt166 = true := dw_ok (by decide +kernel)
def nn_dt167 : ab_DT := [[(0, .aload_n 0, 1, 0), (1, .getfield 15, 3, 1), (4, .iconst 0, 1, 0), (5, .iaload, 1, 1), (6, .iconst 3, 1, 0), (7, .if_icmp .lt 7, 3, 2), (10, .iconst 1, 1, 0), (11, .goto 4, 3, 2), (14, .iconst 0, 1, 0), (15, .ireturn, 1, 6)]]
theorem nn_d167 : ab_dtok prog_6_method_3_code nn_dt167 = true := dw_ok (by decide +kernel)
def nn_dt168 : ab_DT := [[(0, .aload_n 0, 1, 0), (1, .getfield 100, 3, 1), (4, .ifCond .eq 25, 3, 2), (7, .iload_n 1, 1, 0), (8, .ifCond .lt 21, 3, 2), (11, .iload_n 1, 1, 0), (12, .aload_n 0, 1, 0), (13, .getfield 97, 3, 1)],
  [(16, .arraylength, 1, 1), (17, .if_icmp .ge 12, 3, 2), (20, .aload_n 0, 1, 0), (21, .getfield 97, 3, 1), (24, .iload_n 1, 1, 0), (25, .iaload, 1, 1), (26, .goto 4, 3, 2), (29, .iconst (-1), 1, 0), (30, .ireturn, 1, 6)]]
theorem nn_d168 : ab_dtok prog_1_method_51_code nn_dt168 = true := dw_ok (by decide +kernel)
def nn_dt169 : ab_DT := [[(0, .aload_n 0, 1, 0), (1, .iload_n 1, 1, 0), (2, .iload_n 2, 1, 0), (3, .invokevirtual 405, 3, 3), (6, .ifCond .eq 14, 3, 2), (9, .iload_n 3, 1, 0), (10, .iconst 1, 1, 0), (11, .if_icmp .lt 9, 3, 2), (14, .iload_n 3, 1, 0), (15, .bipush 100, 2, 0)],
  [(17, .if_icmp .le 5, 3, 2), (20, .iconst (-1), 1, 0), (21, .ireturn, 1, 6), (22, .iconst 0, 1, 0), (23, .istore 5, 2, 0), (25, .iconst 0, 1, 0), (26, .istore 6, 2, 0), (28, .iload 6, 2, 0), (30, .iload_n 3, 1, 0), (31, .if_icmp .ge 47, 3, 2)],
  [(34, .aload_n 0, 1, 0), (35, .getfield 69, 3, 1), (38, .aload_n 0, 1, 0), (39, .getfield 19, 3, 1), (42, .iload_n 1, 1, 0), (43, .iload_n 2, 1, 0), (44, .iload 4, 2, 0), (46, .iload 6, 2, 0)],
  [(48, .iadd, 1, 0), (49, .invokevirtual 408, 3, 3), (52, .iload 5, 2, 0), (54, .aload_n 0, 1, 0), (55, .getfield 69, 3, 1), (58, .invokevirtual 424, 3, 3), (61, .ifCond .eq 7, 3, 2)],
  [(64, .iconst 1, 1, 0), (65, .goto 4, 3, 2), (68, .iconst 0, 1, 0), (69, .iadd, 1, 0), (70, .istore 5, 2, 0), (72, .iinc 6 1, 3, 0), (75, .goto (-47), 3, 2), (78, .iload 5, 2, 0)],
  [(80, .ireturn, 1, 6)]]
theorem nn_d169 : ab_dtok prog_1_method_52_code nn_dt169 = true := dw_ok (by decide +kernel)
def nn_dt170 : ab_DT := [[(0, .aload_n 0, 1, 0), (1, .getfield 19, 3, 1), (4, .iload_n 1, 1, 0), (5, .invokevirtual 157, 3, 3), (8, .ifCond .ne 5, 3, 2), (11, .iconst (-1), 1, 0), (12, .ireturn, 1, 6), (13, .aload_n 0, 1, 0), (14, .getfield 83, 3, 1)],
  [(17, .invokevirtual 281, 3, 3), (20, .iconst 0, 1, 0), (21, .istore_n 2, 1, 0), (22, .iload_n 2, 1, 0), (23, .aload_n 0, 1, 0), (24, .getfield 19, 3, 1), (27, .getfield 427, 3, 1), (30, .iload_n 1, 1, 0), (31, .invokestatic 180, 3, 3)],
  [(34, .if_icmp .ge 63, 3, 2), (37, .iload_n 2, 1, 0), (38, .ifCond .le 12, 3, 2), (41, .aload_n 0, 1, 0), (42, .getfield 83, 3, 1), (45, .bipush 32, 2, 0), (47, .invokevirtual 300, 3, 3)],
  [(50, .aload_n 0, 1, 0), (51, .getfield 83, 3, 1), (54, .aload_n 0, 1, 0), (55, .getfield 19, 3, 1), (58, .iload_n 1, 1, 0), (59, .iload_n 2, 1, 0), (60, .invokevirtual 150, 3, 3), (63, .invokevirtual 306, 3, 3)],
  [(66, .aload_n 0, 1, 0), (67, .getfield 83, 3, 1), (70, .bipush 32, 2, 0), (72, .invokevirtual 300, 3, 3), (75, .aload_n 0, 1, 0), (76, .getfield 83, 3, 1), (79, .aload_n 0, 1, 0)],
  [(80, .getfield 19, 3, 1), (83, .iload_n 1, 1, 0), (84, .iload_n 2, 1, 0), (85, .invokevirtual 154, 3, 3), (88, .invokevirtual 306, 3, 3), (91, .iinc 2 1, 3, 0), (94, .goto (-72), 3, 2)],
  [(97, .aload_n 0, 1, 0), (98, .getfield 83, 3, 1), (101, .getfield 311, 3, 1), (104, .ireturn, 1, 6)]]
theorem nn_d170 : ab_dtok prog_1_method_53_code nn_dt170 = true := dw_ok (by decide +kernel)
def nn_dt171 : ab_DT := [[(0, .iload_n 1, 1, 0), (1, .ifCond .lt 28, 3, 2), (4, .iload_n 1, 1, 0), (5, .aload_n 0, 1, 0), (6, .getfield 83, 3, 1), (9, .getfield 311, 3, 1), (12, .if_icmp .ge 17, 3, 2), (15, .aload_n 0, 1, 0)],
  [(16, .getfield 83, 3, 1), (19, .getfield 430, 3, 1), (22, .iload_n 1, 1, 0), (23, .invokestatic 180, 3, 3), (26, .goto 4, 3, 2), (29, .iconst (-1), 1, 0), (30, .ireturn, 1, 6)]]
theorem nn_d171 : ab_dtok prog_1_method_54_code nn_dt171 = true := dw_ok (by decide +kernel)
def nn_dt172 : ab_DT := [[(0, .aload_n 0, 1, 0), (1, .getfield 41, 3, 1), (4, .aload_n 0, 1, 0), (5, .getfield 10, 3, 1), (8, .aload_n 0, 1, 0), (9, .getfield 19, 3, 1), (12, .invokevirtual 433, 3, 3), (15, .istore_n 1, 1, 0)],
  [(16, .aload_n 0, 1, 0), (17, .getfield 10, 3, 1), (20, .iconst 0, 1, 0), (21, .putfield 116, 3, 1), (24, .iload_n 1, 1, 0), (25, .ifCond .ne 13, 3, 2), (28, .iconst (-1), 1, 0), (29, .aload_n 0, 1, 0), (30, .getfield 10, 3, 1)],
  [(33, .getfield 122, 3, 1), (36, .isub, 1, 0), (37, .ireturn, 1, 6), (38, .aload_n 0, 1, 0), (39, .getfield 19, 3, 1), (42, .getfield 434, 3, 1), (45, .aload_n 0, 1, 0), (46, .getfield 41, 3, 1)],
  [(49, .invokevirtual 437, 3, 3), (52, .aload_n 0, 1, 0), (53, .getfield 41, 3, 1), (56, .getfield 440, 3, 1), (59, .ireturn, 1, 6)]]
theorem nn_d172 : ab_dtok prog_1_method_55_code nn_dt172 = true := dw_ok (by decide +kernel)
def nn_dt173 : ab_DT := [[(0, .aload_n 0, 1, 0), (1, .invokevirtual 32, 3, 3), (4, .aload_n 1, 1, 0), (5, .sipush 200, 3, 0), (8, .invokevirtual 35, 3, 3), (11, .aload_n 0, 1, 0), (12, .aload_n 1, 1, 0), (13, .aload_n 2, 1, 0), (14, .iconst 1, 1, 0), (15, .invokevirtual 41, 3, 3)],
  [(18, .ifCond .ne 5, 3, 2), (21, .iconst 0, 1, 0), (22, .ireturn, 1, 6), (23, .aload_n 1, 1, 0), (24, .getfield 45, 3, 1), (27, .ifCond .eq 11, 3, 2), (30, .aload_n 1, 1, 0), (31, .iconst 1, 1, 0)],
  [(32, .invokevirtual 48, 3, 3), (35, .ifCond .eq 7, 3, 2), (38, .iconst 1, 1, 0), (39, .goto 4, 3, 2), (42, .iconst 0, 1, 0), (43, .ireturn, 1, 6)]]
theorem nn_d173 : ab_dtok prog_7_method_4_code nn_dt173 = true := dw_ok (by decide +kernel)
def nn_dt174 : ab_DT := [[(0, .aload_n 0, 1, 0), (1, .aload_n 1, 1, 0), (2, .aload_n 2, 1, 0), (3, .iload_n 3, 1, 0), (4, .invokevirtual 52, 3, 3), (7, .istore 4, 2, 0), (9, .iconst 0, 1, 0), (10, .istore 5, 2, 0), (12, .iconst 0, 1, 0), (13, .istore 6, 2, 0), (15, .iload 6, 2, 0)],
  [(17, .bipush 20, 2, 0), (19, .if_icmp .ge 98, 3, 2), (22, .iload 4, 2, 0), (24, .ifCond .eq 93, 3, 2), (27, .aload_n 1, 1, 0), (28, .getstatic 55, 3, 4), (31, .invokevirtual 61, 3, 3)],
  [(34, .ifCond .ne 13, 3, 2), (37, .aload_n 1, 1, 0), (38, .getstatic 65, 3, 4), (41, .invokevirtual 61, 3, 3), (44, .ifCond .eq 73, 3, 2), (47, .aload_n 1, 1, 0)],
  [(48, .getstatic 55, 3, 4), (51, .invokevirtual 61, 3, 3), (54, .istore 7, 2, 0), (56, .iload 7, 2, 0), (58, .ifCond .ne 14, 3, 2), (61, .iload 5, 2, 0), (63, .ifCond .eq 9, 3, 2)],
  [(66, .aload_n 0, 1, 0), (67, .iconst 2, 1, 0), (68, .iconst 0, 1, 0), (69, .invokevirtual 68, 3, 3), (72, .iload 5, 2, 0), (74, .iload 7, 2, 0), (76, .ifCond .ne 7, 3, 2), (79, .iconst 1, 1, 0)],
  [(80, .goto 4, 3, 2), (83, .iconst 0, 1, 0), (84, .ior, 1, 0), (85, .istore 5, 2, 0), (87, .aload_n 1, 1, 0), (88, .invokevirtual 72, 3, 3), (91, .aload_n 0, 1, 0), (92, .aload_n 1, 1, 0), (93, .aload_n 2, 1, 0), (94, .iload_n 3, 1, 0), (95, .invokevirtual 52, 3, 3)],
  [(98, .istore 4, 2, 0), (100, .iload 7, 2, 0), (102, .ifCond .eq 9, 3, 2), (105, .aload_n 0, 1, 0), (106, .iconst 1, 1, 0), (107, .iconst 0, 1, 0), (108, .invokevirtual 68, 3, 3), (111, .iinc 6 1, 3, 0)],
  [(114, .goto (-99), 3, 2), (117, .iload 5, 2, 0), (119, .ifCond .eq 9, 3, 2), (122, .aload_n 0, 1, 0), (123, .iconst 2, 1, 0), (124, .iconst 0, 1, 0), (125, .invokevirtual 68, 3, 3)],
  [(128, .iload 4, 2, 0), (130, .ireturn, 1, 6)]]
theorem nn_d174 : ab_dtok prog_7_method_5_code nn_dt174 = true := dw_ok (by decide +kernel)
def nn_dt175 : ab_DT := [[(0, .aload_n 1, 1, 0), (1, .invokestatic 75, 3, 3), (4, .istore 4, 2, 0), (6, .aload_n 1, 1, 0), (7, .getfield 45, 3, 1), (10, .bipush 40, 2, 0), (12, .if_icmp .ne 7, 3, 2), (15, .iconst 1, 1, 0)],
  [(16, .goto 4, 3, 2), (19, .iconst 0, 1, 0), (20, .istore 5, 2, 0), (22, .iload 4, 2, 0), (24, .iconst (-1), 1, 0), (25, .if_icmp .ne 14, 3, 2), (28, .iload 5, 2, 0), (30, .ifCond .ne 9, 3, 2)],
  [(33, .aload_n 1, 1, 0), (34, .iconst 1, 1, 0), (35, .invokevirtual 48, 3, 3), (38, .ireturn, 1, 6), (39, .aload_n 0, 1, 0), (40, .getfield 25, 3, 1), (43, .bipush 20, 2, 0), (45, .if_icmp .ge 9, 3, 2)],
  [(48, .iload_n 3, 1, 0), (49, .bipush 8, 2, 0), (51, .if_icmp .le 9, 3, 2), (54, .aload_n 1, 1, 0), (55, .iconst 4, 1, 0), (56, .invokevirtual 48, 3, 3), (59, .ireturn, 1, 6), (60, .aload_n 0, 1, 0), (61, .dup, 1, 0), (62, .getfield 25, 3, 1)],
  [(65, .iconst 1, 1, 0), (66, .iadd, 1, 0), (67, .putfield 25, 3, 1), (70, .aload_n 1, 1, 0), (71, .invokevirtual 72, 3, 3), (74, .iload 5, 2, 0), (76, .ifCond .eq 30, 3, 2), (79, .aload_n 0, 1, 0)],
  [(80, .aload_n 1, 1, 0), (81, .aload_n 2, 1, 0), (82, .iload_n 3, 1, 0), (83, .iconst 1, 1, 0), (84, .iadd, 1, 0), (85, .invokevirtual 41, 3, 3), (88, .ifCond .eq 16, 3, 2), (91, .aload_n 1, 1, 0), (92, .bipush 41, 2, 0), (94, .invokevirtual 79, 3, 3)],
  [(97, .ifCond .eq 7, 3, 2), (100, .iconst 1, 1, 0), (101, .goto 4, 3, 2), (104, .iconst 0, 1, 0), (105, .ireturn, 1, 6), (106, .iload 4, 2, 0), (108, .ifCond .ne 23, 3, 2), (111, .aload_n 0, 1, 0)],
  [(112, .aload_n 1, 1, 0), (113, .aload_n 2, 1, 0), (114, .iload_n 3, 1, 0), (115, .iconst 1, 1, 0), (116, .iadd, 1, 0), (117, .invokevirtual 52, 3, 3), (120, .istore 6, 2, 0), (122, .aload_n 0, 1, 0), (123, .iconst 0, 1, 0), (124, .iconst 0, 1, 0), (125, .invokevirtual 68, 3, 3)],
  [(128, .iload 6, 2, 0), (130, .ireturn, 1, 6), (131, .iload 4, 2, 0), (133, .bipush 6, 2, 0), (135, .if_icmp .ge 14, 3, 2), (138, .aload_n 0, 1, 0), (139, .aload_n 1, 1, 0), (140, .aload_n 2, 1, 0), (141, .iload 4, 2, 0), (143, .invokevirtual 82, 3, 3)],
  [(146, .goto 10, 3, 2), (149, .aload_n 0, 1, 0), (150, .aload_n 1, 1, 0), (151, .iload 4, 2, 0), (153, .invokevirtual 85, 3, 3), (156, .ireturn, 1, 6)]]
theorem nn_d175 : ab_dtok prog_7_method_6_code nn_dt175 = true := dw_ok (by decide +kernel)
def nn_dt176 : ab_DT := [[(0, .aload_n 0, 1, 0), (1, .getstatic 117, 3, 4), (4, .invokevirtual 61, 3, 3), (7, .ifCond .eq 5, 3, 2), (10, .iconst 0, 1, 0), (11, .ireturn, 1, 6), (12, .aload_n 0, 1, 0), (13, .getstatic 120, 3, 4)],
  [(16, .invokevirtual 61, 3, 3), (19, .ifCond .eq 5, 3, 2), (22, .iconst 3, 1, 0), (23, .ireturn, 1, 6), (24, .aload_n 0, 1, 0), (25, .getstatic 123, 3, 4), (28, .invokevirtual 61, 3, 3), (31, .ifCond .eq 5, 3, 2)],
  [(34, .iconst 4, 1, 0), (35, .ireturn, 1, 6), (36, .aload_n 0, 1, 0), (37, .getstatic 126, 3, 4), (40, .invokevirtual 61, 3, 3), (43, .ifCond .eq 5, 3, 2), (46, .iconst 5, 1, 0), (47, .ireturn, 1, 6)],
  [(48, .aload_n 0, 1, 0), (49, .getstatic 129, 3, 4), (52, .invokevirtual 61, 3, 3), (55, .ifCond .eq 6, 3, 2), (58, .bipush 6, 2, 0), (60, .ireturn, 1, 6), (61, .aload_n 0, 1, 0), (62, .getstatic 132, 3, 4)],
  [(65, .invokevirtual 61, 3, 3), (68, .ifCond .eq 6, 3, 2), (71, .bipush 9, 2, 0), (73, .ireturn, 1, 6), (74, .aload_n 0, 1, 0), (75, .getstatic 135, 3, 4), (78, .invokevirtual 61, 3, 3)],
  [(81, .ifCond .eq 6, 3, 2), (84, .bipush 12, 2, 0), (86, .ireturn, 1, 6), (87, .aload_n 0, 1, 0), (88, .getstatic 138, 3, 4), (91, .invokevirtual 61, 3, 3), (94, .ifCond .eq 8, 3, 2)],
  [(97, .bipush 15, 2, 0), (99, .goto 4, 3, 2), (102, .iconst (-1), 1, 0), (103, .ireturn, 1, 6)]]
theorem nn_d176 : ab_dtok prog_7_method_9_code nn_dt176 = true := dw_ok (by decide +kernel)
def nn_dt177 : ab_DT := [[(0, .aload_n 0, 1, 0), (1, .getfield 11, 3, 1), (4, .aload_n 0, 1, 0), (5, .getfield 21, 3, 1), (8, .iload_n 1, 1, 0), (9, .invokestatic 141, 3, 3), (12, .aload_n 0, 1, 0), (13, .getfield 15, 3, 1)],
  [(16, .aload_n 0, 1, 0), (17, .getfield 21, 3, 1), (20, .iload_n 2, 1, 0), (21, .invokestatic 141, 3, 3), (24, .aload_n 0, 1, 0), (25, .dup, 1, 0), (26, .getfield 21, 3, 1), (29, .iconst 1, 1, 0), (30, .iadd, 1, 0), (31, .putfield 21, 3, 1)],
  [(34, .return_, 1, 6)]]
theorem nn_d177 : ab_dtok prog_7_method_10_code nn_dt177 = true := dw_ok (by decide +kernel)
def nn_dt178 : ab_DT := [[(0, .iload_n 3, 1, 0), (1, .iconst 3, 1, 0), (2, .if_icmp .ne 20, 3, 2), (5, .aload_n 1, 1, 0), (6, .aload_n 2, 1, 0), (7, .getfield 89, 3, 1), (10, .aload_n 2, 1, 0), (11, .getfield 95, 3, 1), (14, .invokevirtual 98, 3, 3)],
  [(17, .istore 4, 2, 0), (19, .goto 39, 3, 2), (22, .iload_n 3, 1, 0), (23, .iconst 4, 1, 0), (24, .if_icmp .ne 20, 3, 2), (27, .aload_n 1, 1, 0), (28, .aload_n 2, 1, 0), (29, .getfield 102, 3, 1)],
  [(32, .aload_n 2, 1, 0), (33, .getfield 105, 3, 1), (36, .invokevirtual 98, 3, 3), (39, .istore 4, 2, 0), (41, .goto 17, 3, 2), (44, .aload_n 1, 1, 0), (45, .aload_n 2, 1, 0), (46, .getfield 108, 3, 1)],
  [(49, .aload_n 2, 1, 0), (50, .getfield 111, 3, 1), (53, .invokevirtual 98, 3, 3), (56, .istore 4, 2, 0), (58, .iload 4, 2, 0), (60, .iconst (-1), 1, 0), (61, .if_icmp .ne 5, 3, 2)],
  [(64, .iconst 0, 1, 0), (65, .ireturn, 1, 6), (66, .aload_n 0, 1, 0), (67, .iload_n 3, 1, 0), (68, .iload 4, 2, 0), (70, .invokevirtual 68, 3, 3), (73, .aload_n 1, 1, 0), (74, .invokevirtual 72, 3, 3), (77, .iconst 1, 1, 0), (78, .ireturn, 1, 6)]]
theorem nn_d178 : ab_dtok prog_7_method_7_code nn_dt178 = true := dw_ok (by decide +kernel)
def nn_dt179 : ab_DT := [[(0, .aload_n 1, 1, 0), (1, .getfield 45, 3, 1), (4, .bipush 60, 2, 0), (6, .isub, 1, 0), (7, .istore_n 3, 1, 0), (8, .iload_n 3, 1, 0), (9, .ifCond .lt 8, 3, 2), (12, .iload_n 3, 1, 0), (13, .iconst 2, 1, 0), (14, .if_icmp .le 9, 3, 2)],
  [(17, .aload_n 1, 1, 0), (18, .iconst 1, 1, 0), (19, .invokevirtual 48, 3, 3), (22, .ireturn, 1, 6), (23, .aload_n 1, 1, 0), (24, .invokevirtual 72, 3, 3), (27, .aload_n 1, 1, 0), (28, .getfield 45, 3, 1), (31, .iconst 3, 1, 0)],
  [(32, .if_icmp .eq 9, 3, 2), (35, .aload_n 1, 1, 0), (36, .iconst 1, 1, 0), (37, .invokevirtual 48, 3, 3), (40, .ireturn, 1, 6), (41, .aload_n 0, 1, 0), (42, .iload_n 2, 1, 0), (43, .iload_n 3, 1, 0), (44, .iadd, 1, 0), (45, .aload_n 1, 1, 0), (46, .getfield 114, 3, 1)],
  [(49, .invokevirtual 68, 3, 3), (52, .aload_n 1, 1, 0), (53, .invokevirtual 72, 3, 3), (56, .iconst 1, 1, 0), (57, .ireturn, 1, 6)]]
theorem nn_d179 : ab_dtok prog_7_method_8_code nn_dt179 = true := dw_ok (by decide +kernel)
def nn_dt180 : ab_DT := [[(0, .aload_n 0, 1, 0), (1, .getfield 19, 3, 1), (4, .getfield 434, 3, 1), (7, .getfield 440, 3, 1), (10, .iconst 1, 1, 0), (11, .if_icmp .lt 8, 3, 2), (14, .iload_n 1, 1, 0), (15, .iconst (-1), 1, 0)],
  [(16, .if_icmp .ge 5, 3, 2), (19, .iconst (-1), 1, 0), (20, .ireturn, 1, 6), (21, .aload_n 0, 1, 0), (22, .getfield 19, 3, 1), (25, .getfield 434, 3, 1), (28, .aload_n 0, 1, 0), (29, .getfield 19, 3, 1)],
  [(32, .invokevirtual 443, 3, 3), (35, .istore_n 2, 1, 0), (36, .iload_n 1, 1, 0), (37, .iconst (-1), 1, 0), (38, .if_icmp .ne 10, 3, 2), (41, .iload_n 2, 1, 0), (42, .invokestatic 324, 3, 3), (45, .goto 8, 3, 2)],
  [(48, .iload_n 2, 1, 0), (49, .iload_n 1, 1, 0), (50, .invokestatic 446, 3, 3), (53, .ireturn, 1, 6)]]
theorem nn_d180 : ab_dtok prog_1_method_56_code nn_dt180 = true := dw_ok (by decide +kernel)
def nn_dt181 : ab_DT := [[(0, .iconst 0, 1, 0), (1, .istore_n 2, 1, 0), (2, .iconst 0, 1, 0), (3, .istore_n 3, 1, 0), (4, .iload_n 3, 1, 0), (5, .aload_n 0, 1, 0), (6, .getfield 21, 3, 1), (9, .if_icmp .ge 152, 3, 2), (12, .iload_n 3, 1, 0), (13, .bipush 64, 2, 0), (15, .if_icmp .ge 146, 3, 2)],
  [(18, .aload_n 0, 1, 0), (19, .getfield 11, 3, 1), (22, .iload_n 3, 1, 0), (23, .iaload, 1, 1), (24, .istore 4, 2, 0), (26, .iload 4, 2, 0), (28, .ifCond .ne 33, 3, 2), (31, .aload_n 0, 1, 0)],
  [(32, .getfield 18, 3, 1), (35, .iload_n 2, 1, 0), (36, .iconst 1, 1, 0), (37, .isub, 1, 0), (38, .aload_n 1, 1, 0), (39, .invokevirtual 145, 3, 3), (42, .aload_n 0, 1, 0), (43, .getfield 18, 3, 1), (46, .iload_n 2, 1, 0), (47, .iconst 1, 1, 0)],
  [(48, .isub, 1, 0), (49, .invokestatic 149, 3, 3), (52, .iconst (-1), 1, 0), (53, .ixor, 1, 0), (54, .iand, 1, 0), (55, .invokestatic 141, 3, 3), (58, .goto 97, 3, 2), (61, .iload 4, 2, 0), (63, .iconst 1, 1, 0)],
  [(64, .if_icmp .eq 9, 3, 2), (67, .iload 4, 2, 0), (69, .iconst 2, 1, 0), (70, .if_icmp .ne 62, 3, 2), (73, .aload_n 0, 1, 0), (74, .getfield 18, 3, 1), (77, .iload_n 2, 1, 0), (78, .iconst 2, 1, 0), (79, .isub, 1, 0)],
  [(80, .invokestatic 149, 3, 3), (83, .istore 5, 2, 0), (85, .aload_n 0, 1, 0), (86, .getfield 18, 3, 1), (89, .iload_n 2, 1, 0), (90, .iconst 1, 1, 0), (91, .isub, 1, 0), (92, .invokestatic 149, 3, 3), (95, .istore 6, 2, 0)],
  [(97, .iinc 2 (-1), 3, 0), (100, .aload_n 0, 1, 0), (101, .getfield 18, 3, 1), (104, .iload_n 2, 1, 0), (105, .iconst 1, 1, 0), (106, .isub, 1, 0), (107, .iload 4, 2, 0), (109, .iconst 1, 1, 0), (110, .if_icmp .ne 11, 3, 2)],
  [(113, .iload 5, 2, 0), (115, .iload 6, 2, 0), (117, .iand, 1, 0), (118, .goto 8, 3, 2), (121, .iload 5, 2, 0), (123, .iload 6, 2, 0), (125, .ior, 1, 0), (126, .invokestatic 141, 3, 3)],
  [(129, .goto 26, 3, 2), (132, .aload_n 0, 1, 0), (133, .getfield 18, 3, 1), (136, .iload_n 2, 1, 0), (137, .aload_n 1, 1, 0), (138, .iload 4, 2, 0), (140, .aload_n 0, 1, 0), (141, .getfield 15, 3, 1)],
  [(144, .iload_n 3, 1, 0), (145, .iaload, 1, 1), (146, .invokestatic 153, 3, 3), (149, .invokestatic 141, 3, 3), (152, .iinc 2 1, 3, 0), (155, .iinc 3 1, 3, 0), (158, .goto (-154), 3, 2)],
  [(161, .aload_n 0, 1, 0), (162, .getfield 18, 3, 1), (165, .iconst 0, 1, 0), (166, .invokestatic 149, 3, 3), (169, .ireturn, 1, 6)]]
theorem nn_d181 : ab_dtok prog_7_method_11_code nn_dt181 = true := dw_ok (by decide +kernel)
def nn_dt182 : ab_DT := [[(0, .iload_n 1, 1, 0), (1, .iconst 3, 1, 0), (2, .if_icmp .ne 9, 3, 2), (5, .aload_n 0, 1, 0), (6, .iload_n 2, 1, 0), (7, .invokevirtual 157, 3, 3), (10, .ireturn, 1, 6), (11, .iload_n 1, 1, 0), (12, .iconst 5, 1, 0), (13, .if_icmp .ne 15, 3, 2)],
  [(16, .aload_n 0, 1, 0), (17, .iload_n 2, 1, 0), (18, .iconst 3, 1, 0), (19, .iconst 0, 1, 0), (20, .aload_n 0, 1, 0), (21, .invokevirtual 145, 3, 3), (24, .invokevirtual 161, 3, 3), (27, .ireturn, 1, 6), (28, .iconst 0, 1, 0), (29, .istore_n 3, 1, 0), (30, .iconst 0, 1, 0), (31, .istore 4, 2, 0)],
  [(33, .iload 4, 2, 0), (35, .aload_n 0, 1, 0), (36, .getfield 111, 3, 1), (39, .if_icmp .ge 60, 3, 2), (42, .iload_n 1, 1, 0), (43, .iconst 4, 1, 0), (44, .if_icmp .ne 23, 3, 2), (47, .aload_n 0, 1, 0)],
  [(48, .iload_n 2, 1, 0), (49, .iload 4, 2, 0), (51, .invokevirtual 165, 3, 3), (54, .bipush 9, 2, 0), (56, .if_icmp .ne 7, 3, 2), (59, .iconst 1, 1, 0), (60, .goto 15, 3, 2), (63, .iconst 0, 1, 0)],
  [(64, .goto 11, 3, 2), (67, .aload_n 0, 1, 0), (68, .iload 4, 2, 0), (70, .iload_n 1, 1, 0), (71, .iload_n 2, 1, 0), (72, .invokestatic 169, 3, 3), (75, .istore 5, 2, 0), (77, .iload_n 3, 1, 0), (78, .iload 5, 2, 0)],
  [(80, .ifCond .eq 10, 3, 2), (83, .iconst 1, 1, 0), (84, .iload 4, 2, 0), (86, .ishl, 1, 0), (87, .goto 4, 3, 2), (90, .iconst 0, 1, 0), (91, .ior, 1, 0), (92, .istore_n 3, 1, 0), (93, .iinc 4 1, 3, 0)],
  [(96, .goto (-63), 3, 2), (99, .iload_n 3, 1, 0), (100, .ireturn, 1, 6)]]
theorem nn_d182 : ab_dtok prog_7_method_12_code nn_dt182 = true := dw_ok (by decide +kernel)
def nn_dt183 : ab_DT := [[(0, .iload_n 2, 1, 0), (1, .bipush 6, 2, 0), (3, .isub, 1, 0), (4, .iconst 3, 1, 0), (5, .idiv, 1, 0), (6, .istore 4, 2, 0), (8, .iload_n 2, 1, 0), (9, .bipush 6, 2, 0), (11, .isub, 1, 0), (12, .iconst 3, 1, 0), (13, .irem, 1, 0), (14, .iconst 1, 1, 0), (15, .isub, 1, 0)],
  [(16, .istore 5, 2, 0), (18, .aload_n 0, 1, 0), (19, .iload_n 1, 1, 0), (20, .iload 4, 2, 0), (22, .invokevirtual 173, 3, 3), (25, .iload_n 3, 1, 0), (26, .invokestatic 176, 3, 3), (29, .iload 5, 2, 0), (31, .if_icmp .ne 7, 3, 2)],
  [(34, .iconst 1, 1, 0), (35, .goto 4, 3, 2), (38, .iconst 0, 1, 0), (39, .ireturn, 1, 6)]]
theorem nn_d183 : ab_dtok prog_7_method_13_code nn_dt183 = true := dw_ok (by decide +kernel)
def nn_dt184 : ab_DT := [[(0, .aload_n 0, 1, 0), (1, .iload_n 1, 1, 0), (2, .invokevirtual 449, 3, 3), (5, .astore_n 2, 1, 0), (6, .aload_n 2, 1, 0), (7, .ifnonnull 5, 3, 2), (10, .iconst 0, 1, 0), (11, .ireturn, 1, 6), (12, .aload_n 2, 1, 0), (13, .aload_n 0, 1, 0), (14, .getfield 19, 3, 1)],
  [(17, .invokevirtual 128, 3, 3), (20, .aload_n 2, 1, 0), (21, .iconst 1, 1, 0), (22, .putfield 453, 3, 1), (25, .iconst 1, 1, 0), (26, .ireturn, 1, 6)]]
theorem nn_d184 : ab_dtok prog_1_method_57_code nn_dt184 = true := dw_ok (by decide +kernel)
def nn_dt185 : ab_DT := [[(0, .iload_n 1, 1, 0), (1, .ifCond .ne 8, 3, 2), (4, .aload_n 0, 1, 0), (5, .getfield 23, 3, 1), (8, .areturn, 1, 6), (9, .iload_n 1, 1, 0), (10, .iconst 1, 1, 0), (11, .if_icmp .ne 10, 3, 2), (14, .aload_n 0, 1, 0), (15, .getfield 26, 3, 1)],
  [(18, .goto 4, 3, 2), (21, .aconst_null, 1, 0), (22, .areturn, 1, 6)]]
theorem nn_d185 : ab_dtok prog_1_method_60_code nn_dt185 = true := dw_ok (by decide +kernel)
def nn_dt186 : ab_DT := [[(0, .aload_n 0, 1, 0), (1, .iload_n 1, 1, 0), (2, .invokevirtual 449, 3, 3), (5, .astore_n 2, 1, 0), (6, .aload_n 2, 1, 0), (7, .ifnull 10, 3, 2), (10, .aload_n 2, 1, 0), (11, .getfield 453, 3, 1), (14, .ifCond .ne 5, 3, 2)],
  [(17, .iconst 0, 1, 0), (18, .ireturn, 1, 6), (19, .aload_n 0, 1, 0), (20, .getfield 19, 3, 1), (23, .aload_n 2, 1, 0), (24, .invokevirtual 128, 3, 3), (27, .aload_n 0, 1, 0), (28, .getfield 76, 3, 1), (31, .iconst 0, 1, 0)],
  [(32, .putfield 135, 3, 1), (35, .iconst 1, 1, 0), (36, .ireturn, 1, 6)]]
theorem nn_d186 : ab_dtok prog_1_method_58_code nn_dt186 = true := dw_ok (by decide +kernel)
def nn_dt187 : ab_DT := [[(0, .iload_n 1, 1, 0), (1, .tableswitch 75 0 4 #[35, 43, 51, 59, 67], 35, 2)],
  [],
  [(36, .aload_n 0, 1, 0), (37, .getfield 19, 3, 1), (40, .getfield 317, 3, 1), (43, .ireturn, 1, 6), (44, .aload_n 0, 1, 0), (45, .getfield 19, 3, 1)],
  [(48, .getfield 269, 3, 1), (51, .ireturn, 1, 6), (52, .aload_n 0, 1, 0), (53, .getfield 19, 3, 1), (56, .getfield 314, 3, 1), (59, .ireturn, 1, 6), (60, .aload_n 0, 1, 0), (61, .getfield 19, 3, 1)],
  [(64, .getfield 456, 3, 1), (67, .ireturn, 1, 6), (68, .aload_n 0, 1, 0), (69, .getfield 10, 3, 1), (72, .getfield 116, 3, 1), (75, .ireturn, 1, 6), (76, .iconst (-1), 1, 0), (77, .ireturn, 1, 6)]]
theorem nn_d187 : ab_dtok prog_1_method_59_code nn_dt187 = true := dw_ok (by decide +kernel)
def nn_dt188 : ab_DT := [[(0, .aload_n 0, 1, 0), (1, .iload_n 1, 1, 0), (2, .iload_n 2, 1, 0), (3, .iload_n 3, 1, 0), (4, .iload 4, 2, 0), (6, .invokevirtual 207, 3, 3), (9, .ifCond .eq 11, 3, 2), (12, .iload 5, 2, 0), (14, .invokestatic 146, 3, 3)],
  [(17, .ifCond .ne 13, 3, 2), (20, .new 211, 3, 9), (23, .dup, 1, 0), (24, .ldc 213, 2, 5), (26, .invokespecial 215, 3, 9), (29, .athrow, 1, 9), (30, .aload_n 0, 1, 0), (31, .iload_n 1, 1, 0)],
  [(32, .iload_n 2, 1, 0), (33, .iload_n 3, 1, 0), (34, .iload 4, 2, 0), (36, .invokevirtual 218, 3, 3), (39, .ldc2_w 222, 3, 0), (42, .iload 5, 2, 0), (44, .invokestatic 224, 3, 3), (47, .lreturn, 1, 6)]]
theorem nn_d188 : ab_dtok prog_1_method_15_code nn_dt188 = true := dw_ok (by decide +kernel)
def nn_dt189 : ab_DT := [[(0, .aload_n 0, 1, 0), (1, .getfield 19, 3, 1), (4, .iload_n 1, 1, 0), (5, .invokevirtual 173, 3, 3), (8, .ifCond .eq 42, 3, 2), (11, .iload_n 3, 1, 0), (12, .invokestatic 184, 3, 3), (15, .ifCond .eq 35, 3, 2)],
  [(18, .aload_n 0, 1, 0), (19, .getfield 19, 3, 1), (22, .iload 4, 2, 0), (24, .invokevirtual 166, 3, 3), (27, .ifCond .eq 23, 3, 2), (30, .aload_n 0, 1, 0), (31, .getfield 19, 3, 1)],
  [(34, .iload 4, 2, 0), (36, .invokevirtual 169, 3, 3), (39, .iload_n 2, 1, 0), (40, .invokestatic 197, 3, 3), (43, .ifCond .eq 7, 3, 2), (46, .iconst 1, 1, 0), (47, .goto 4, 3, 2)],
  [(50, .iconst 0, 1, 0), (51, .ireturn, 1, 6)]]
theorem nn_d189 : ab_dtok prog_1_method_61_code nn_dt189 = true := dw_ok (by decide +kernel)
def nn_dt190 : ab_DT := [[(0, .aload_n 0, 1, 0), (1, .getfield 55, 3, 1), (4, .aload_n 0, 1, 0), (5, .getfield 19, 3, 1), (8, .iload_n 3, 1, 0), (9, .aload_n 0, 1, 0), (10, .getfield 19, 3, 1), (13, .iload 4, 2, 0), (15, .invokevirtual 169, 3, 3)],
  [(18, .invokevirtual 320, 3, 3), (21, .aload_n 0, 1, 0), (22, .getfield 55, 3, 1), (25, .aload_n 0, 1, 0), (26, .getfield 19, 3, 1), (29, .iload_n 1, 1, 0), (30, .iconst 0, 1, 0), (31, .invokevirtual 329, 3, 3)],
  [(34, .aload_n 0, 1, 0), (35, .getfield 55, 3, 1), (38, .iload_n 2, 1, 0), (39, .invokevirtual 459, 3, 3), (42, .lreturn, 1, 6)]]
theorem nn_d190 : ab_dtok prog_1_method_64_code nn_dt190 = true := dw_ok (by decide +kernel)
def nn_dt191 : ab_DT := [[(0, .aload_n 0, 1, 0), (1, .getfield 15, 3, 1), (4, .iload_n 1, 1, 0), (5, .invokestatic 40, 3, 3), (8, .istore_n 2, 1, 0), (9, .iconst 0, 1, 0), (10, .istore_n 3, 1, 0), (11, .iconst 0, 1, 0), (12, .istore 4, 2, 0), (14, .iload 4, 2, 0)],
  [(16, .aload_n 0, 1, 0), (17, .getfield 18, 3, 1), (20, .arraylength, 1, 1), (21, .if_icmp .ge 26, 3, 2), (24, .aload_n 0, 1, 0), (25, .getfield 18, 3, 1), (28, .iload 4, 2, 0), (30, .iload 4, 2, 0)],
  [(32, .ifCond .ne 7, 3, 2), (35, .lconst 1, 1, 0), (36, .goto 4, 3, 2), (39, .lconst 0, 1, 0), (40, .lastore, 1, 1), (41, .iinc 4 1, 3, 0), (44, .goto (-30), 3, 2), (47, .iconst 0, 1, 0)],
  [(48, .istore 4, 2, 0), (50, .iload 4, 2, 0), (52, .aload_n 0, 1, 0), (53, .getfield 9, 3, 1), (56, .arraylength, 1, 1), (57, .if_icmp .ge 38, 3, 2), (60, .iload 4, 2, 0), (62, .iload_n 1, 1, 0), (63, .if_icmp .eq 26, 3, 2)],
  [(66, .iload_n 2, 1, 0), (67, .iload 4, 2, 0), (69, .invokestatic 26, 3, 3), (72, .ifCond .eq 17, 3, 2), (75, .iinc 3 1, 3, 0), (78, .aload_n 0, 1, 0), (79, .aload_n 0, 1, 0)],
  [(80, .getfield 9, 3, 1), (83, .iload 4, 2, 0), (85, .iaload, 1, 1), (86, .invokevirtual 44, 3, 3), (89, .iinc 4 1, 3, 0), (92, .goto (-42), 3, 2), (95, .lconst 0, 1, 0)],
  [(96, .lstore 4, 2, 0), (98, .iconst 0, 1, 0), (99, .istore 6, 2, 0), (101, .iload 6, 2, 0), (103, .aload_n 0, 1, 0), (104, .getfield 18, 3, 1), (107, .arraylength, 1, 1), (108, .if_icmp .ge 31, 3, 2), (111, .lload 4, 2, 0)],
  [(113, .aload_n 0, 1, 0), (114, .getfield 18, 3, 1), (117, .iload 6, 2, 0), (119, .laload, 1, 1), (120, .getstatic 48, 3, 4), (123, .iload 6, 2, 0), (125, .invokestatic 40, 3, 3)],
  [(128, .i2l, 1, 0), (129, .lmul, 1, 0), (130, .ladd, 1, 0), (131, .lstore 4, 2, 0), (133, .iinc 6 1, 3, 0), (136, .goto (-35), 3, 2), (139, .aload_n 0, 1, 0), (140, .getfield 9, 3, 1), (143, .iload_n 1, 1, 0)],
  [(144, .invokestatic 40, 3, 3), (147, .i2l, 1, 0), (148, .lload 4, 2, 0), (150, .lmul, 1, 0), (151, .getstatic 51, 3, 4), (154, .bipush 8, 2, 0), (156, .iload_n 3, 1, 0), (157, .isub, 1, 0), (158, .invokestatic 54, 3, 3)],
  [(161, .lmul, 1, 0), (162, .lreturn, 1, 6)]]
theorem nn_d191 : ab_dtok prog_3_method_4_code nn_dt191 = true := dw_ok (by decide +kernel)
def nn_dt192 : ab_DT := [[(0, .aload_n 0, 1, 0), (1, .getfield 18, 3, 1), (4, .arraylength, 1, 1), (5, .iconst 1, 1, 0), (6, .isub, 1, 0), (7, .istore_n 2, 1, 0), (8, .iload_n 2, 1, 0), (9, .ifCond .lt 41, 3, 2), (12, .aload_n 0, 1, 0), (13, .getfield 18, 3, 1)],
  [(16, .iload_n 2, 1, 0), (17, .aload_n 0, 1, 0), (18, .getfield 18, 3, 1), (21, .iload_n 2, 1, 0), (22, .laload, 1, 1), (23, .bipush 9, 2, 0), (25, .iload_n 1, 1, 0), (26, .isub, 1, 0), (27, .i2l, 1, 0), (28, .lmul, 1, 0), (29, .aload_n 0, 1, 0), (30, .getfield 18, 3, 1)],
  [(33, .iload_n 2, 1, 0), (34, .iconst 1, 1, 0), (35, .isub, 1, 0), (36, .invokestatic 54, 3, 3), (39, .iload_n 1, 1, 0), (40, .i2l, 1, 0), (41, .lmul, 1, 0), (42, .ladd, 1, 0), (43, .lastore, 1, 1), (44, .iinc 2 (-1), 3, 0), (47, .goto (-39), 3, 2)],
  [(50, .return_, 1, 6)]]
theorem nn_d192 : ab_dtok prog_3_method_5_code nn_dt192 = true := dw_ok (by decide +kernel)
def nn_dt193 : ab_DT := [[(0, .lload_n 0, 1, 0), (1, .lstore 5, 2, 0), (3, .lload_n 2, 1, 0), (4, .lstore 7, 2, 0), (6, .iconst 0, 1, 0), (7, .istore 9, 2, 0), (9, .iload 9, 2, 0), (11, .sipush 200, 3, 0), (14, .if_icmp .ge 31, 3, 2)],
  [(17, .lload 7, 2, 0), (19, .lconst 0, 1, 0), (20, .lcmp, 1, 2), (21, .ifCond .eq 24, 3, 2), (24, .lload 5, 2, 0), (26, .lload 7, 2, 0), (28, .lrem, 1, 0), (29, .lstore 10, 2, 0), (31, .lload 7, 2, 0)],
  [(33, .lstore 5, 2, 0), (35, .lload 10, 2, 0), (37, .lstore 7, 2, 0), (39, .iinc 9 1, 3, 0), (42, .goto (-33), 3, 2), (45, .lload 5, 2, 0), (47, .lconst 0, 1, 0)],
  [(48, .lcmp, 1, 2), (49, .ifCond .ne 5, 3, 2), (52, .lconst 0, 1, 0), (53, .lreturn, 1, 6), (54, .iload 4, 2, 0), (56, .ifCond .ne 10, 3, 2), (59, .lload_n 0, 1, 0), (60, .lload 5, 2, 0), (62, .ldiv, 1, 0), (63, .goto 7, 3, 2)],
  [(66, .lload_n 2, 1, 0), (67, .lload 5, 2, 0), (69, .ldiv, 1, 0), (70, .lreturn, 1, 6)]]
theorem nn_d193 : ab_dtok prog_1_method_79_code nn_dt193 = true := dw_ok (by decide +kernel)
def nn_dt194 : ab_DT := [[(0, .aload_n 0, 1, 0), (1, .getfield 19, 3, 1), (4, .iload_n 1, 1, 0), (5, .invokevirtual 173, 3, 3), (8, .ifCond .eq 29, 3, 2), (11, .iload_n 2, 1, 0), (12, .invokestatic 184, 3, 3), (15, .ifCond .eq 22, 3, 2)],
  [(18, .aload_n 0, 1, 0), (19, .getfield 19, 3, 1), (22, .iload_n 3, 1, 0), (23, .invokevirtual 166, 3, 3), (26, .ifCond .eq 11, 3, 2), (29, .iload 4, 2, 0), (31, .invokestatic 146, 3, 3)],
  [(34, .ifCond .ne 13, 3, 2), (37, .new 211, 3, 9), (40, .dup, 1, 0), (41, .ldc 213, 2, 5), (43, .invokespecial 215, 3, 9), (46, .athrow, 1, 9), (47, .aload_n 0, 1, 0)],
  [(48, .iload_n 1, 1, 0), (49, .iload_n 2, 1, 0), (50, .aload_n 0, 1, 0), (51, .getfield 19, 3, 1), (54, .iload_n 3, 1, 0), (55, .invokevirtual 169, 3, 3), (58, .invokevirtual 228, 3, 3), (61, .ldc2_w 222, 3, 0)],
  [(64, .iload 4, 2, 0), (66, .invokestatic 224, 3, 3), (69, .lreturn, 1, 6)]]
theorem nn_d194 : ab_dtok prog_1_method_16_code nn_dt194 = true := dw_ok (by decide +kernel)
def nn_dt195 : ab_DT := [[(0, .aload_n 0, 1, 0), (1, .iload_n 1, 1, 0), (2, .iload_n 2, 1, 0), (3, .iload_n 3, 1, 0), (4, .iload 4, 2, 0), (6, .invokevirtual 239, 3, 3), (9, .ifCond .eq 11, 3, 2), (12, .iload 5, 2, 0), (14, .invokestatic 146, 3, 3)],
  [(17, .ifCond .ne 13, 3, 2), (20, .new 211, 3, 9), (23, .dup, 1, 0), (24, .ldc 213, 2, 5), (26, .invokespecial 215, 3, 9), (29, .athrow, 1, 9), (30, .aload_n 0, 1, 0), (31, .iload_n 1, 1, 0)],
  [(32, .iload_n 2, 1, 0), (33, .iload 4, 2, 0), (35, .invokevirtual 242, 3, 3), (38, .aload_n 0, 1, 0), (39, .getfield 62, 3, 1), (42, .iconst 0, 1, 0), (43, .iload_n 3, 1, 0), (44, .invokevirtual 249, 3, 3), (47, .ldc2_w 222, 3, 0)],
  [(50, .iload 5, 2, 0), (52, .invokestatic 224, 3, 3), (55, .lreturn, 1, 6)]]
theorem nn_d195 : ab_dtok prog_1_method_19_code nn_dt195 = true := dw_ok (by decide +kernel)
def nn_dt196 : ab_DT := [[(0, .aload_n 0, 1, 0), (1, .iload_n 1, 1, 0), (2, .iload_n 2, 1, 0), (3, .iload_n 3, 1, 0), (4, .iload 4, 2, 0), (6, .invokevirtual 239, 3, 3), (9, .ifCond .eq 11, 3, 2), (12, .iload 5, 2, 0), (14, .invokestatic 146, 3, 3)],
  [(17, .ifCond .ne 13, 3, 2), (20, .new 211, 3, 9), (23, .dup, 1, 0), (24, .ldc 213, 2, 5), (26, .invokespecial 215, 3, 9), (29, .athrow, 1, 9), (30, .aload_n 0, 1, 0), (31, .iload_n 1, 1, 0)],
  [(32, .iload_n 2, 1, 0), (33, .iload 4, 2, 0), (35, .invokevirtual 253, 3, 3), (38, .aload_n 0, 1, 0), (39, .getfield 62, 3, 1), (42, .iconst 0, 1, 0), (43, .iload_n 3, 1, 0), (44, .invokevirtual 249, 3, 3), (47, .ldc2_w 222, 3, 0)],
  [(50, .iload 5, 2, 0), (52, .invokestatic 224, 3, 3), (55, .lreturn, 1, 6)]]
theorem nn_d196 : ab_dtok prog_1_method_21_code nn_dt196 = true := dw_ok (by decide +kernel)
def nn_dt197 : ab_DT := [[(0, .aload_n 0, 1, 0), (1, .iload_n 1, 1, 0), (2, .iload_n 2, 1, 0), (3, .iload_n 3, 1, 0), (4, .iload 4, 2, 0), (6, .invokevirtual 207, 3, 3), (9, .ifCond .eq 19, 3, 2), (12, .iload 5, 2, 0), (14, .invokestatic 146, 3, 3)],
  [(17, .ifCond .eq 11, 3, 2), (20, .iload 6, 2, 0), (22, .invokestatic 146, 3, 3), (25, .ifCond .ne 13, 3, 2), (28, .new 211, 3, 9), (31, .dup, 1, 0)],
  [(32, .ldc 213, 2, 5), (34, .invokespecial 215, 3, 9), (37, .athrow, 1, 9), (38, .aload_n 0, 1, 0), (39, .iload_n 1, 1, 0), (40, .iload_n 2, 1, 0), (41, .iload_n 3, 1, 0), (42, .iload 4, 2, 0), (44, .invokevirtual 218, 3, 3), (47, .lstore 7, 2, 0)],
  [(49, .lload 7, 2, 0), (51, .iload 5, 2, 0), (53, .iconst 1, 1, 0), (54, .if_icmp .ne 7, 3, 2), (57, .lconst 0, 1, 0), (58, .goto 6, 3, 2), (61, .ldc2_w 222, 3, 0)],
  [(64, .lcmp, 1, 2), (65, .ifCond .ne 14, 3, 2), (68, .new 211, 3, 9), (71, .dup, 1, 0), (72, .ldc_w 258, 3, 5), (75, .invokespecial 215, 3, 9), (78, .athrow, 1, 9), (79, .iload 5, 2, 0)],
  [(81, .iconst 1, 1, 0), (82, .if_icmp .ne 15, 3, 2), (85, .ldc2_w 222, 3, 0), (88, .ldc2_w 222, 3, 0), (91, .iload 6, 2, 0), (93, .invokestatic 224, 3, 3)],
  [(96, .lreturn, 1, 6), (97, .aload_n 0, 1, 0), (98, .getfield 19, 3, 1), (101, .iload_n 1, 1, 0), (102, .iload_n 2, 1, 0), (103, .invokevirtual 176, 3, 3), (106, .i2l, 1, 0), (107, .ldc2_w 260, 3, 0), (110, .lmul, 1, 0), (111, .lstore 9, 2, 0)],
  [(113, .lload 9, 2, 0), (115, .lload 7, 2, 0), (117, .lsub, 1, 0), (118, .ldc2_w 222, 3, 0), (121, .lload 7, 2, 0), (123, .lsub, 1, 0), (124, .iload 6, 2, 0), (126, .invokestatic 224, 3, 3)],
  [(129, .lreturn, 1, 6)]]
theorem nn_d197 : ab_dtok prog_1_method_23_code nn_dt197 = true := dw_ok (by decide +kernel)
def nn_dt198 : ab_DT := [[(0, .aload_n 0, 1, 0), (1, .getfield 19, 3, 1), (4, .iload_n 1, 1, 0), (5, .invokevirtual 173, 3, 3), (8, .ifCond .eq 34, 3, 2), (11, .iload_n 2, 1, 0), (12, .invokestatic 184, 3, 3), (15, .ifCond .eq 27, 3, 2)],
  [(18, .iload_n 3, 1, 0), (19, .iconst 1, 1, 0), (20, .if_icmp .lt 22, 3, 2), (23, .iload_n 3, 1, 0), (24, .aload_n 0, 1, 0), (25, .getfield 19, 3, 1), (28, .invokevirtual 262, 3, 3), (31, .if_icmp .gt 11, 3, 2)],
  [(34, .iload 4, 2, 0), (36, .invokestatic 146, 3, 3), (39, .ifCond .ne 13, 3, 2), (42, .new 211, 3, 9), (45, .dup, 1, 0), (46, .ldc 213, 2, 5)],
  [(48, .invokespecial 215, 3, 9), (51, .athrow, 1, 9), (52, .aload_n 0, 1, 0), (53, .iload_n 1, 1, 0), (54, .iload_n 2, 1, 0), (55, .iload_n 3, 1, 0), (56, .invokevirtual 228, 3, 3), (59, .ldc2_w 222, 3, 0), (62, .iload 4, 2, 0)],
  [(64, .invokestatic 224, 3, 3), (67, .lreturn, 1, 6)]]
theorem nn_d198 : ab_dtok prog_1_method_24_code nn_dt198 = true := dw_ok (by decide +kernel)
def nn_dt199 : ab_DT := [[(0, .iload_n 1, 1, 0), (1, .invokestatic 353, 3, 3), (4, .ifCond .eq 25, 3, 2), (7, .iload_n 2, 1, 0), (8, .invokestatic 353, 3, 3), (11, .ifCond .eq 18, 3, 2), (14, .iload_n 3, 1, 0), (15, .invokestatic 232, 3, 3)],
  [(18, .ifCond .eq 11, 3, 2), (21, .iload 4, 2, 0), (23, .invokestatic 146, 3, 3), (26, .ifCond .ne 13, 3, 2), (29, .new 211, 3, 9)],
  [(32, .dup, 1, 0), (33, .ldc 213, 2, 5), (35, .invokespecial 215, 3, 9), (38, .athrow, 1, 9), (39, .aload_n 0, 1, 0), (40, .iload_n 3, 1, 0), (41, .iload_n 3, 1, 0), (42, .iconst 0, 1, 0), (43, .invokevirtual 356, 3, 3), (46, .aload_n 0, 1, 0), (47, .iload_n 1, 1, 0)],
  [(48, .iload_n 2, 1, 0), (49, .invokevirtual 360, 3, 3), (52, .i2l, 1, 0), (53, .ldc2_w 363, 3, 0), (56, .iload 4, 2, 0), (58, .invokestatic 224, 3, 3), (61, .lreturn, 1, 6)]]
theorem nn_d199 : ab_dtok prog_1_method_35_code nn_dt199 = true := dw_ok (by decide +kernel)
def nn_DT_160 : List ab_DT := [nn_dt160, nn_dt161, nn_dt162, nn_dt163, nn_dt164, nn_dt165, nn_dt166, nn_dt167, nn_dt168, nn_dt169, nn_dt170, nn_dt171, nn_dt172, nn_dt173, nn_dt174, nn_dt175, nn_dt176, nn_dt177, nn_dt178, nn_dt179, nn_dt180, nn_dt181, nn_dt182, nn_dt183, nn_dt184, nn_dt185, nn_dt186, nn_dt187, nn_dt188, nn_dt189, nn_dt190, nn_dt191, nn_dt192, nn_dt193, nn_dt194, nn_dt195, nn_dt196, nn_dt197, nn_dt198, nn_dt199]
theorem nn_DT_160_ok : ab_dtP nn_MT_160 nn_DT_160 := ⟨nn_d160, nn_d161, nn_d162, nn_d163, nn_d164, nn_d165, nn_d166, nn_d167, nn_d168, nn_d169, nn_d170, nn_d171, nn_d172, nn_d173, nn_d174, nn_d175, nn_d176, nn_d177, nn_d178, nn_d179, nn_d180, nn_d181, nn_d182, nn_d183, nn_d184, nn_d185, nn_d186, nn_d187, nn_d188, nn_d189, nn_d190, nn_d191, nn_d192, nn_d193, nn_d194, nn_d195, nn_d196, nn_d197, nn_d198, nn_d199, trivial⟩
end
section
def nn_dt200 : ab_DT := [[(0, .iload_n 1, 1, 0), (1, .invokestatic 353, 3, 3), (4, .ifCond .eq 33, 3, 2), (7, .iload_n 2, 1, 0), (8, .invokestatic 353, 3, 3), (11, .ifCond .eq 26, 3, 2), (14, .iload_n 3, 1, 0), (15, .invokestatic 232, 3, 3)],
  [(18, .ifCond .eq 19, 3, 2), (21, .iload 4, 2, 0), (23, .invokestatic 232, 3, 3), (26, .ifCond .eq 11, 3, 2), (29, .iload 5, 2, 0), (31, .invokestatic 146, 3, 3)],
  [(34, .ifCond .ne 13, 3, 2), (37, .new 211, 3, 9), (40, .dup, 1, 0), (41, .ldc 213, 2, 5), (43, .invokespecial 215, 3, 9), (46, .athrow, 1, 9), (47, .aload_n 0, 1, 0)],
  [(48, .iload_n 3, 1, 0), (49, .iload 4, 2, 0), (51, .iconst 1, 1, 0), (52, .invokevirtual 356, 3, 3), (55, .aload_n 0, 1, 0), (56, .iload_n 1, 1, 0), (57, .iload_n 2, 1, 0), (58, .invokevirtual 360, 3, 3), (61, .i2l, 1, 0), (62, .ldc2_w 363, 3, 0)],
  [(65, .iload 5, 2, 0), (67, .invokestatic 224, 3, 3), (70, .lreturn, 1, 6)]]
theorem nn_d200 : ab_dtok prog_1_method_37_code nn_dt200 = true := dw_ok (by decide +kernel)
def nn_dt201 : ab_DT := [[(0, .iload_n 1, 1, 0), (1, .invokestatic 146, 3, 3), (4, .ifCond .eq 30, 3, 2), (7, .aload_n 0, 1, 0), (8, .getfield 48, 3, 1), (11, .invokevirtual 390, 3, 3), (14, .ifCond .eq 20, 3, 2)],
  [(17, .aload_n 0, 1, 0), (18, .getfield 48, 3, 1), (21, .getfield 393, 3, 1), (24, .aload_n 0, 1, 0), (25, .getfield 19, 3, 1), (28, .getfield 132, 3, 1), (31, .if_icmp .eq 14, 3, 2)],
  [(34, .new 211, 3, 9), (37, .dup, 1, 0), (38, .ldc_w 394, 3, 5), (41, .invokespecial 215, 3, 9), (44, .athrow, 1, 9), (45, .aload_n 0, 1, 0), (46, .aload_n 0, 1, 0), (47, .getfield 48, 3, 1)],
  [(50, .invokevirtual 396, 3, 3), (53, .aload_n 0, 1, 0), (54, .getfield 48, 3, 1), (57, .invokevirtual 399, 3, 3), (60, .aload_n 0, 1, 0), (61, .getfield 19, 3, 1)],
  [(64, .aload_n 0, 1, 0), (65, .getfield 48, 3, 1), (68, .getfield 402, 3, 1), (71, .invokevirtual 169, 3, 3), (74, .invokevirtual 228, 3, 3), (77, .lstore_n 2, 1, 0), (78, .lload_n 2, 1, 0), (79, .ldc2_w 222, 3, 0)],
  [(82, .iload_n 1, 1, 0), (83, .invokestatic 224, 3, 3), (86, .lreturn, 1, 6)]]
theorem nn_d201 : ab_dtok prog_1_method_49_code nn_dt201 = true := dw_ok (by decide +kernel)
def nn_dt202 : ab_DT := [[(0, .aload_n 0, 1, 0), (1, .getfield 94, 3, 1), (4, .ifCond .eq 26, 3, 2), (7, .aload_n 0, 1, 0), (8, .getfield 18, 3, 1), (11, .iconst 0, 1, 0), (12, .iaload, 1, 1), (13, .ifCond .ne 17, 3, 2)],
  [(16, .aload_n 0, 1, 0), (17, .getfield 18, 3, 1), (20, .iconst 3, 1, 0), (21, .iaload, 1, 1), (22, .iconst (-1), 1, 0), (23, .if_icmp .eq 7, 3, 2), (26, .iconst 1, 1, 0), (27, .goto 4, 3, 2), (30, .iconst 0, 1, 0), (31, .ireturn, 1, 6)]]
theorem nn_d202 : ab_dtok prog_4_method_6_code nn_dt202 = true := dw_ok (by decide +kernel)
def nn_dt203 : ab_DT := [[(0, .aload_n 0, 1, 0), (1, .getfield 18, 3, 1), (4, .iconst 2, 1, 0), (5, .iaload, 1, 1), (6, .ireturn, 1, 6)]]
theorem nn_d203 : ab_dtok prog_4_method_7_code nn_dt203 = true := dw_ok (by decide +kernel)
def nn_dt204 : ab_DT := [[(0, .aload_n 0, 1, 0), (1, .getfield 18, 3, 1), (4, .iconst 1, 1, 0), (5, .iaload, 1, 1), (6, .ireturn, 1, 6)]]
theorem nn_d204 : ab_dtok prog_4_method_8_code nn_dt204 = true := dw_ok (by decide +kernel)
def nn_dt205 : ab_DT := [[(0, .aload_n 0, 1, 0), (1, .iconst 0, 1, 0), (2, .putfield 100, 3, 1), (5, .aload_n 0, 1, 0), (6, .getfield 103, 3, 1), (9, .bipush 20, 2, 0), (11, .iadd, 1, 0), (12, .sipush 940, 3, 0), (15, .if_icmp .le 5, 3, 2)],
  [(18, .iconst (-1), 1, 0), (19, .ireturn, 1, 6), (20, .aload_n 0, 1, 0), (21, .iload_n 1, 1, 0), (22, .invokevirtual 106, 3, 3), (25, .aload_n 0, 1, 0), (26, .iload_n 2, 1, 0), (27, .invokevirtual 106, 3, 3), (30, .aload_n 0, 1, 0), (31, .iload_n 3, 1, 0)],
  [(32, .invokevirtual 106, 3, 3), (35, .aload_n 0, 1, 0), (36, .iload 4, 2, 0), (38, .invokevirtual 106, 3, 3), (41, .aload_n 0, 1, 0), (42, .iload 5, 2, 0), (44, .invokevirtual 106, 3, 3), (47, .aload_n 0, 1, 0)],
  [(48, .getfield 103, 3, 1), (51, .ireturn, 1, 6)]]
theorem nn_d205 : ab_dtok prog_14_method_5_code nn_dt205 = true := dw_ok (by decide +kernel)
def nn_dt206 : ab_DT := [[(0, .bipush 24, 2, 0), (2, .istore_n 2, 1, 0), (3, .iload_n 2, 1, 0), (4, .ifCond .lt 35, 3, 2), (7, .aload_n 0, 1, 0), (8, .getfield 7, 3, 1), (11, .aload_n 0, 1, 0), (12, .getfield 103, 3, 1), (15, .iload_n 1, 1, 0)],
  [(16, .iload_n 2, 1, 0), (17, .iushr, 1, 0), (18, .sipush 255, 3, 0), (21, .iand, 1, 0), (22, .iastore, 1, 1), (23, .aload_n 0, 1, 0), (24, .dup, 1, 0), (25, .getfield 103, 3, 1), (28, .iconst 1, 1, 0), (29, .iadd, 1, 0), (30, .putfield 103, 3, 1)],
  [(33, .iinc 2 (-8), 3, 0), (36, .goto (-33), 3, 2), (39, .return_, 1, 6)]]
theorem nn_d206 : ab_dtok prog_14_method_4_code nn_dt206 = true := dw_ok (by decide +kernel)
def nn_dt207 : ab_DT := [[(0, .aload_n 0, 1, 0), (1, .iconst 0, 1, 0), (2, .putfield 100, 3, 1), (5, .iload_n 1, 1, 0), (6, .ifCond .lt 11, 3, 2), (9, .iload_n 1, 1, 0), (10, .aload_n 0, 1, 0), (11, .getfield 103, 3, 1), (14, .if_icmp .le 5, 3, 2)],
  [(17, .iconst 0, 1, 0), (18, .ireturn, 1, 6), (19, .aload_n 0, 1, 0), (20, .iload_n 1, 1, 0), (21, .putfield 103, 3, 1), (24, .iconst 1, 1, 0), (25, .ireturn, 1, 6)]]
theorem nn_d207 : ab_dtok prog_14_method_6_code nn_dt207 = true := dw_ok (by decide +kernel)
def nn_dt208 : ab_DT := [[(0, .aload_n 0, 1, 0), (1, .sipush 900, 3, 0), (4, .invokevirtual 249, 3, 3), (7, .iconst 0, 1, 0), (8, .istore_n 1, 1, 0), (9, .iload_n 1, 1, 0), (10, .sipush 232, 3, 0), (13, .if_icmp .ge 16, 3, 2)],
  [(16, .aload_n 0, 1, 0), (17, .getfield 16, 3, 1), (20, .iload_n 1, 1, 0), (21, .iconst 0, 1, 0), (22, .iastore, 1, 1), (23, .iinc 1 1, 3, 0), (26, .goto (-17), 3, 2), (29, .aload_n 0, 1, 0), (30, .getfield 16, 3, 1)],
  [(33, .iconst 3, 1, 0), (34, .bipush 9, 2, 0), (36, .iastore, 1, 1), (37, .aload_n 0, 1, 0), (38, .iconst 0, 1, 0), (39, .putfield 219, 3, 1), (42, .aload_n 0, 1, 0), (43, .iconst 0, 1, 0), (44, .putfield 222, 3, 1), (47, .iconst 0, 1, 0)],
  [(48, .istore_n 1, 1, 0), (49, .iload_n 1, 1, 0), (50, .iconst 5, 1, 0), (51, .if_icmp .ge 16, 3, 2), (54, .aload_n 0, 1, 0), (55, .getfield 39, 3, 1), (58, .iload_n 1, 1, 0), (59, .iconst 0, 1, 0), (60, .iastore, 1, 1), (61, .iinc 1 1, 3, 0)],
  [(64, .goto (-15), 3, 2), (67, .iconst 0, 1, 0), (68, .istore_n 1, 1, 0), (69, .aload_n 0, 1, 0), (70, .getfield 126, 3, 1), (73, .ifCond .eq 23, 3, 2), (76, .aload_n 0, 1, 0), (77, .invokevirtual 252, 3, 3)],
  [(80, .ifCond .ne 10, 3, 2), (83, .iconst (-1), 1, 0), (84, .aload_n 0, 1, 0), (85, .getfield 165, 3, 1), (88, .isub, 1, 0), (89, .ireturn, 1, 6), (90, .iinc 1 1, 3, 0), (93, .goto (-24), 3, 2)],
  [(96, .aload_n 0, 1, 0), (97, .dup, 1, 0), (98, .getfield 255, 3, 1), (101, .iconst 1, 1, 0), (102, .iadd, 1, 0), (103, .putfield 255, 3, 1), (106, .aload_n 0, 1, 0), (107, .getfield 16, 3, 1), (110, .iconst 4, 1, 0), (111, .aload_n 0, 1, 0)],
  [(112, .getfield 255, 3, 1), (115, .iastore, 1, 1), (116, .iconst 0, 1, 0), (117, .istore_n 2, 1, 0), (118, .iload_n 2, 1, 0), (119, .sipush 474, 3, 0), (122, .if_icmp .ge 32, 3, 2), (125, .aload_n 0, 1, 0), (126, .getfield 13, 3, 1)],
  [(129, .iload_n 2, 1, 0), (130, .iload_n 2, 1, 0), (131, .sipush 232, 3, 0), (134, .if_icmp .ge 12, 3, 2), (137, .aload_n 0, 1, 0), (138, .getfield 16, 3, 1), (141, .iload_n 2, 1, 0), (142, .iaload, 1, 1), (143, .goto 4, 3, 2)],
  [(146, .iconst 0, 1, 0), (147, .iastore, 1, 1), (148, .iinc 2 1, 3, 0), (151, .goto (-33), 3, 2), (154, .iconst 0, 1, 0), (155, .istore_n 2, 1, 0), (156, .iload_n 2, 1, 0), (157, .bipush 20, 2, 0), (159, .if_icmp .ge 21, 3, 2)],
  [(162, .aload_n 0, 1, 0), (163, .getfield 25, 3, 1), (166, .iload_n 2, 1, 0), (167, .aload_n 0, 1, 0), (168, .getfield 29, 3, 1), (171, .iload_n 2, 1, 0), (172, .laload, 1, 1), (173, .lastore, 1, 1), (174, .iinc 2 1, 3, 0)],
  [(177, .goto (-21), 3, 2), (180, .aload_n 0, 1, 0), (181, .iconst 0, 1, 0), (182, .putfield 258, 3, 1), (185, .iload_n 1, 1, 0), (186, .ireturn, 1, 6)]]
theorem nn_d208 : ab_dtok prog_14_method_39_code nn_dt208 = true := dw_ok (by decide +kernel)
def nn_dt209 : ab_DT := [[(0, .aload_n 0, 1, 0), (1, .iconst 0, 1, 0), (2, .putfield 100, 3, 1), (5, .aload_n 0, 1, 0), (6, .invokevirtual 188, 3, 3), (9, .aload_n 0, 1, 0), (10, .aload_n 0, 1, 0), (11, .invokevirtual 191, 3, 3), (14, .putfield 114, 3, 1)],
  [(17, .aload_n 0, 1, 0), (18, .iload_n 1, 1, 0), (19, .putfield 123, 3, 1), (22, .aload_n 0, 1, 0), (23, .iconst 0, 1, 0), (24, .putfield 162, 3, 1), (27, .aload_n 0, 1, 0), (28, .iconst 0, 1, 0), (29, .putfield 117, 3, 1)],
  [(32, .aload_n 0, 1, 0), (33, .invokevirtual 182, 3, 3), (36, .return_, 1, 6)]]
theorem nn_d209 : ab_dtok prog_14_method_27_code nn_dt209 = true := dw_ok (by decide +kernel)
def nn_dt210 : ab_DT := [[(0, .aload_n 0, 1, 0), (1, .getfield 195, 3, 1), (4, .ifCond .eq 4, 3, 2), (7, .return_, 1, 6), (8, .aload_n 0, 1, 0), (9, .iconst 1, 1, 0), (10, .putfield 195, 3, 1), (13, .aload_n 0, 1, 0), (14, .getfield 13, 3, 1)],
  [(17, .iconst 3, 1, 0), (18, .bipush 9, 2, 0), (20, .iastore, 1, 1), (21, .return_, 1, 6)]]
theorem nn_d210 : ab_dtok prog_14_method_28_code nn_dt210 = true := dw_ok (by decide +kernel)
def nn_dt211 : ab_DT := [[(0, .aload_n 0, 1, 0), (1, .getfield 103, 3, 1), (4, .istore_n 1, 1, 0), (5, .aload_n 0, 1, 0), (6, .iconst 0, 1, 0), (7, .putfield 103, 3, 1), (10, .iload_n 1, 1, 0), (11, .ireturn, 1, 6)]]
theorem nn_d211 : ab_dtok prog_14_method_7_code nn_dt211 = true := dw_ok (by decide +kernel)
def nn_dt212 : ab_DT := [[(0, .aload_n 0, 1, 0), (1, .getfield 117, 3, 1), (4, .aload_n 0, 1, 0), (5, .getfield 114, 3, 1), (8, .if_icmp .ge 44, 3, 2), (11, .aload_n 0, 1, 0), (12, .getfield 7, 3, 1), (15, .aload_n 0, 1, 0)],
  [(16, .getfield 117, 3, 1), (19, .iaload, 1, 1), (20, .bipush 32, 2, 0), (22, .if_icmp .eq 17, 3, 2), (25, .aload_n 0, 1, 0), (26, .getfield 7, 3, 1), (29, .aload_n 0, 1, 0), (30, .getfield 117, 3, 1)],
  [(33, .iaload, 1, 1), (34, .bipush 10, 2, 0), (36, .if_icmp .ne 16, 3, 2), (39, .aload_n 0, 1, 0), (40, .dup, 1, 0), (41, .getfield 117, 3, 1), (44, .iconst 1, 1, 0), (45, .iadd, 1, 0), (46, .putfield 117, 3, 1)],
  [(49, .goto (-49), 3, 2), (52, .aload_n 0, 1, 0), (53, .aload_n 0, 1, 0), (54, .getfield 117, 3, 1), (57, .putfield 120, 3, 1), (60, .aload_n 0, 1, 0), (61, .getfield 114, 3, 1)],
  [(64, .aload_n 0, 1, 0), (65, .getfield 123, 3, 1), (68, .if_icmp .le 28, 3, 2), (71, .aload_n 0, 1, 0), (72, .getfield 120, 3, 1), (75, .aload_n 0, 1, 0), (76, .getfield 123, 3, 1), (79, .if_icmp .lt 17, 3, 2)],
  [(82, .aload_n 0, 1, 0), (83, .aload_n 0, 1, 0), (84, .getfield 123, 3, 1), (87, .putfield 120, 3, 1), (90, .aload_n 0, 1, 0), (91, .iconst 1, 1, 0), (92, .putfield 126, 3, 1), (95, .return_, 1, 6)],
  [(96, .aload_n 0, 1, 0), (97, .getfield 117, 3, 1), (100, .aload_n 0, 1, 0), (101, .getfield 114, 3, 1), (104, .if_icmp .lt 9, 3, 2), (107, .aload_n 0, 1, 0), (108, .iconst 0, 1, 0), (109, .putfield 126, 3, 1)],
  [(112, .return_, 1, 6), (113, .aload_n 0, 1, 0), (114, .getfield 7, 3, 1), (117, .aload_n 0, 1, 0), (118, .getfield 117, 3, 1), (121, .iaload, 1, 1), (122, .istore_n 1, 1, 0), (123, .iload_n 1, 1, 0), (124, .invokestatic 129, 3, 3), (127, .ifCond .ne 71, 3, 2)],
  [(130, .iload_n 1, 1, 0), (131, .invokestatic 133, 3, 3), (134, .ifCond .ne 64, 3, 2), (137, .aload_n 0, 1, 0), (138, .iload_n 1, 1, 0), (139, .bipush 59, 2, 0), (141, .if_icmp .eq 33, 3, 2)],
  [(144, .iload_n 1, 1, 0), (145, .bipush 60, 2, 0), (147, .if_icmp .eq 27, 3, 2), (150, .iload_n 1, 1, 0), (151, .bipush 61, 2, 0), (153, .if_icmp .eq 21, 3, 2), (156, .iload_n 1, 1, 0), (157, .bipush 62, 2, 0), (159, .if_icmp .eq 15, 3, 2)],
  [(162, .iload_n 1, 1, 0), (163, .bipush 40, 2, 0), (165, .if_icmp .eq 9, 3, 2), (168, .iload_n 1, 1, 0), (169, .bipush 41, 2, 0), (171, .if_icmp .ne 7, 3, 2), (174, .iconst 4, 1, 0), (175, .goto 4, 3, 2)],
  [(178, .iconst 1, 1, 0), (179, .putfield 126, 3, 1), (182, .aload_n 0, 1, 0), (183, .iload_n 1, 1, 0), (184, .putfield 136, 3, 1), (187, .aload_n 0, 1, 0), (188, .dup, 1, 0), (189, .getfield 117, 3, 1)],
  [(192, .iconst 1, 1, 0), (193, .iadd, 1, 0), (194, .putfield 117, 3, 1), (197, .return_, 1, 6), (198, .iload_n 1, 1, 0), (199, .invokestatic 129, 3, 3), (202, .istore_n 2, 1, 0), (203, .iconst 1, 1, 0), (204, .istore_n 3, 1, 0), (205, .aload_n 0, 1, 0), (206, .lconst 0, 1, 0), (207, .putfield 139, 3, 1)],
  [(210, .aload_n 0, 1, 0), (211, .iconst 0, 1, 0), (212, .putfield 143, 3, 1), (215, .aload_n 0, 1, 0), (216, .aload_n 0, 1, 0), (217, .getfield 117, 3, 1), (220, .invokevirtual 146, 3, 3), (223, .invokestatic 129, 3, 3)],
  [(226, .ifCond .ne 17, 3, 2), (229, .aload_n 0, 1, 0), (230, .aload_n 0, 1, 0), (231, .getfield 117, 3, 1), (234, .invokevirtual 146, 3, 3), (237, .invokestatic 133, 3, 3)],
  [(240, .ifCond .eq 110, 3, 2), (243, .aload_n 0, 1, 0), (244, .getfield 7, 3, 1), (247, .aload_n 0, 1, 0), (248, .getfield 117, 3, 1), (251, .iaload, 1, 1), (252, .istore 4, 2, 0), (254, .iload_n 3, 1, 0), (255, .ifCond .eq 16, 3, 2)],
  [(258, .iload 4, 2, 0), (260, .invokestatic 129, 3, 3), (263, .iload_n 2, 1, 0), (264, .if_icmp .ne 7, 3, 2), (267, .iconst 1, 1, 0), (268, .goto 4, 3, 2), (271, .iconst 0, 1, 0)],
  [(272, .istore_n 3, 1, 0), (273, .aload_n 0, 1, 0), (274, .getfield 117, 3, 1), (277, .aload_n 0, 1, 0), (278, .getfield 120, 3, 1), (281, .isub, 1, 0), (282, .bipush 7, 2, 0), (284, .if_icmp .ge 23, 3, 2), (287, .aload_n 0, 1, 0)],
  [(288, .ldc2_w 150, 3, 0), (291, .aload_n 0, 1, 0), (292, .getfield 139, 3, 1), (295, .lmul, 1, 0), (296, .iload 4, 2, 0), (298, .i2l, 1, 0), (299, .ladd, 1, 0), (300, .ldc2_w 152, 3, 0), (303, .lsub, 1, 0)],
  [(304, .putfield 139, 3, 1), (307, .aload_n 0, 1, 0), (308, .getfield 117, 3, 1), (311, .aload_n 0, 1, 0), (312, .getfield 120, 3, 1), (315, .isub, 1, 0), (316, .iconst 2, 1, 0), (317, .if_icmp .ge 20, 3, 2)],
  [(320, .aload_n 0, 1, 0), (321, .bipush 10, 2, 0), (323, .aload_n 0, 1, 0), (324, .getfield 143, 3, 1), (327, .imul, 1, 0), (328, .iload 4, 2, 0), (330, .iadd, 1, 0), (331, .bipush 48, 2, 0), (333, .isub, 1, 0), (334, .putfield 143, 3, 1)],
  [(337, .aload_n 0, 1, 0), (338, .dup, 1, 0), (339, .getfield 117, 3, 1), (342, .iconst 1, 1, 0), (343, .iadd, 1, 0), (344, .putfield 117, 3, 1), (347, .goto (-132), 3, 2), (350, .aload_n 0, 1, 0), (351, .iload_n 3, 1, 0)],
  [(352, .ifCond .eq 25, 3, 2), (355, .aload_n 0, 1, 0), (356, .getfield 117, 3, 1), (359, .aload_n 0, 1, 0), (360, .getfield 120, 3, 1), (363, .isub, 1, 0), (364, .iload_n 2, 1, 0), (365, .ifCond .eq 8, 3, 2)],
  [(368, .bipush 7, 2, 0), (370, .goto 4, 3, 2), (373, .iconst 2, 1, 0), (374, .if_icmp .le 7, 3, 2), (377, .iconst 1, 1, 0), (378, .goto 12, 3, 2), (381, .iload_n 2, 1, 0), (382, .ifCond .eq 7, 3, 2)],
  [(385, .iconst 2, 1, 0), (386, .goto 4, 3, 2), (389, .iconst 3, 1, 0), (390, .putfield 126, 3, 1), (393, .return_, 1, 6)]]
theorem nn_d212 : ab_dtok prog_14_method_17_code nn_dt212 = true := dw_ok (by decide +kernel)
def nn_dt213 : ab_DT := [[(0, .iload_n 0, 1, 0), (1, .bipush 97, 2, 0), (3, .if_icmp .lt 13, 3, 2), (6, .iload_n 0, 1, 0), (7, .bipush 122, 2, 0), (9, .if_icmp .gt 7, 3, 2), (12, .iconst 1, 1, 0), (13, .goto 4, 3, 2)],
  [(16, .iconst 0, 1, 0), (17, .ireturn, 1, 6)]]
theorem nn_d213 : ab_dtok prog_14_method_16_code nn_dt213 = true := dw_ok (by decide +kernel)
def nn_dt214 : ab_DT := [[(0, .iload_n 0, 1, 0), (1, .bipush 48, 2, 0), (3, .if_icmp .lt 13, 3, 2), (6, .iload_n 0, 1, 0), (7, .bipush 57, 2, 0), (9, .if_icmp .gt 7, 3, 2), (12, .iconst 1, 1, 0), (13, .goto 4, 3, 2)],
  [(16, .iconst 0, 1, 0), (17, .ireturn, 1, 6)]]
theorem nn_d214 : ab_dtok prog_14_method_15_code nn_dt214 = true := dw_ok (by decide +kernel)
def nn_dt215 : ab_DT := [[(0, .iload_n 1, 1, 0), (1, .aload_n 0, 1, 0), (2, .getfield 114, 3, 1), (5, .if_icmp .ge 12, 3, 2), (8, .aload_n 0, 1, 0), (9, .getfield 7, 3, 1), (12, .iload_n 1, 1, 0), (13, .iaload, 1, 1), (14, .goto 4, 3, 2)],
  [(17, .iconst 0, 1, 0), (18, .ireturn, 1, 6)]]
theorem nn_d215 : ab_dtok prog_14_method_14_code nn_dt215 = true := dw_ok (by decide +kernel)
def nn_dt216 : ab_DT := [[(0, .aload_n 0, 1, 0), (1, .iconst 0, 1, 0), (2, .invokevirtual 225, 3, 3), (5, .ifCond .eq 11, 3, 2), (8, .aload_n 0, 1, 0), (9, .invokevirtual 228, 3, 3), (12, .istore_n 1, 1, 0), (13, .goto 88, 3, 2)],
  [(16, .aload_n 0, 1, 0), (17, .iconst 1, 1, 0), (18, .invokevirtual 225, 3, 3), (21, .ifCond .eq 11, 3, 2), (24, .aload_n 0, 1, 0), (25, .invokevirtual 231, 3, 3), (28, .istore_n 1, 1, 0), (29, .goto 72, 3, 2)],
  [(32, .aload_n 0, 1, 0), (33, .iconst 2, 1, 0), (34, .invokevirtual 225, 3, 3), (37, .ifCond .eq 11, 3, 2), (40, .aload_n 0, 1, 0), (41, .invokevirtual 234, 3, 3), (44, .istore_n 1, 1, 0), (45, .goto 56, 3, 2)],
  [(48, .aload_n 0, 1, 0), (49, .iconst 3, 1, 0), (50, .invokevirtual 225, 3, 3), (53, .ifCond .eq 11, 3, 2), (56, .aload_n 0, 1, 0), (57, .invokevirtual 237, 3, 3), (60, .istore_n 1, 1, 0), (61, .goto 40, 3, 2)],
  [(64, .aload_n 0, 1, 0), (65, .iconst 4, 1, 0), (66, .invokevirtual 225, 3, 3), (69, .ifCond .eq 11, 3, 2), (72, .aload_n 0, 1, 0), (73, .invokevirtual 240, 3, 3), (76, .istore_n 1, 1, 0), (77, .goto 24, 3, 2)],
  [(80, .aload_n 0, 1, 0), (81, .iconst 5, 1, 0), (82, .invokevirtual 225, 3, 3), (85, .ifCond .eq 10, 3, 2), (88, .aload_n 0, 1, 0), (89, .invokevirtual 243, 3, 3), (92, .goto 8, 3, 2), (95, .aload_n 0, 1, 0)],
  [(96, .iconst 1, 1, 0), (97, .invokevirtual 168, 3, 3), (100, .istore_n 1, 1, 0), (101, .iload_n 1, 1, 0), (102, .ifCond .eq 14, 3, 2), (105, .aload_n 0, 1, 0), (106, .invokevirtual 246, 3, 3), (109, .ifCond .eq 7, 3, 2)],
  [(112, .iconst 1, 1, 0), (113, .goto 4, 3, 2), (116, .iconst 0, 1, 0), (117, .ireturn, 1, 6)]]
theorem nn_d216 : ab_dtok prog_14_method_38_code nn_dt216 = true := dw_ok (by decide +kernel)
def nn_dt217 : ab_DT := [[(0, .aload_n 0, 1, 0), (1, .getfield 126, 3, 1), (4, .iconst 2, 1, 0), (5, .if_icmp .ne 19, 3, 2), (8, .aload_n 0, 1, 0), (9, .getfield 139, 3, 1), (12, .iload_n 1, 1, 0), (13, .invokestatic 158, 3, 3)],
  [(16, .lcmp, 1, 2), (17, .ifCond .ne 7, 3, 2), (20, .iconst 1, 1, 0), (21, .goto 4, 3, 2), (24, .iconst 0, 1, 0), (25, .ireturn, 1, 6)]]
theorem nn_d217 : ab_dtok prog_14_method_20_code nn_dt217 = true := dw_ok (by decide +kernel)
def nn_dt218 : ab_DT := [[(0, .iload_n 0, 1, 0), (1, .tableswitch 300 0 15 #[79, 93, 107, 123, 138, 152, 166, 180, 192, 205, 218, 230, 244, 258, 273, 287], 79, 2)],
  [],
  [],
  [],
  [],
  [(80, .bipush 116, 2, 0), (82, .bipush 117, 2, 0), (84, .bipush 110, 2, 0), (86, .bipush 101, 2, 0), (88, .iconst 0, 1, 0), (89, .iconst 0, 1, 0), (90, .invokestatic 154, 3, 3), (93, .lreturn, 1, 6), (94, .bipush 99, 2, 0)],
  [(96, .bipush 108, 2, 0), (98, .bipush 117, 2, 0), (100, .bipush 101, 2, 0), (102, .iconst 0, 1, 0), (103, .iconst 0, 1, 0), (104, .invokestatic 154, 3, 3), (107, .lreturn, 1, 6), (108, .bipush 112, 2, 0), (110, .bipush 101, 2, 0)],
  [(112, .bipush 114, 2, 0), (114, .bipush 115, 2, 0), (116, .bipush 111, 2, 0), (118, .bipush 110, 2, 0), (120, .invokestatic 154, 3, 3), (123, .lreturn, 1, 6), (124, .bipush 107, 2, 0), (126, .bipush 110, 2, 0)],
  [(128, .bipush 111, 2, 0), (130, .bipush 119, 2, 0), (132, .bipush 115, 2, 0), (134, .iconst 0, 1, 0), (135, .invokestatic 154, 3, 3), (138, .lreturn, 1, 6), (139, .bipush 100, 2, 0), (141, .bipush 97, 2, 0), (143, .bipush 114, 2, 0)],
  [(145, .bipush 101, 2, 0), (147, .iconst 0, 1, 0), (148, .iconst 0, 1, 0), (149, .invokestatic 154, 3, 3), (152, .lreturn, 1, 6), (153, .bipush 102, 2, 0), (155, .bipush 114, 2, 0), (157, .bipush 111, 2, 0), (159, .bipush 109, 2, 0)],
  [(161, .iconst 0, 1, 0), (162, .iconst 0, 1, 0), (163, .invokestatic 154, 3, 3), (166, .lreturn, 1, 6), (167, .bipush 110, 2, 0), (169, .bipush 97, 2, 0), (171, .bipush 109, 2, 0), (173, .bipush 101, 2, 0), (175, .iconst 0, 1, 0)],
  [(176, .iconst 0, 1, 0), (177, .invokestatic 154, 3, 3), (180, .lreturn, 1, 6), (181, .bipush 111, 2, 0), (183, .bipush 114, 2, 0), (185, .iconst 0, 1, 0), (186, .iconst 0, 1, 0), (187, .iconst 0, 1, 0), (188, .iconst 0, 1, 0), (189, .invokestatic 154, 3, 3)],
  [(192, .lreturn, 1, 6), (193, .bipush 97, 2, 0), (195, .bipush 110, 2, 0), (197, .bipush 100, 2, 0), (199, .iconst 0, 1, 0), (200, .iconst 0, 1, 0), (201, .iconst 0, 1, 0), (202, .invokestatic 154, 3, 3), (205, .lreturn, 1, 6), (206, .bipush 110, 2, 0)],
  [(208, .bipush 111, 2, 0), (210, .bipush 116, 2, 0), (212, .iconst 0, 1, 0), (213, .iconst 0, 1, 0), (214, .iconst 0, 1, 0), (215, .invokestatic 154, 3, 3), (218, .lreturn, 1, 6), (219, .bipush 105, 2, 0), (221, .bipush 110, 2, 0), (223, .iconst 0, 1, 0)],
  [(224, .iconst 0, 1, 0), (225, .iconst 0, 1, 0), (226, .iconst 0, 1, 0), (227, .invokestatic 154, 3, 3), (230, .lreturn, 1, 6), (231, .bipush 115, 2, 0), (233, .bipush 117, 2, 0), (235, .bipush 114, 2, 0), (237, .bipush 101, 2, 0), (239, .iconst 0, 1, 0)],
  [(240, .iconst 0, 1, 0), (241, .invokestatic 154, 3, 3), (244, .lreturn, 1, 6), (245, .bipush 108, 2, 0), (247, .bipush 105, 2, 0), (249, .bipush 107, 2, 0), (251, .bipush 101, 2, 0), (253, .iconst 0, 1, 0), (254, .iconst 0, 1, 0), (255, .invokestatic 154, 3, 3)],
  [(258, .lreturn, 1, 6), (259, .bipush 110, 2, 0), (261, .bipush 111, 2, 0), (263, .bipush 116, 2, 0), (265, .bipush 101, 2, 0), (267, .bipush 115, 2, 0), (269, .iconst 0, 1, 0), (270, .invokestatic 154, 3, 3)],
  [(273, .lreturn, 1, 6), (274, .bipush 104, 2, 0), (276, .bipush 105, 2, 0), (278, .bipush 103, 2, 0), (280, .bipush 104, 2, 0), (282, .iconst 0, 1, 0), (283, .iconst 0, 1, 0), (284, .invokestatic 154, 3, 3), (287, .lreturn, 1, 6)],
  [(288, .bipush 108, 2, 0), (290, .bipush 111, 2, 0), (292, .bipush 119, 2, 0), (294, .iconst 0, 1, 0), (295, .iconst 0, 1, 0), (296, .iconst 0, 1, 0), (297, .invokestatic 154, 3, 3), (300, .lreturn, 1, 6), (301, .bipush 98, 2, 0), (303, .bipush 101, 2, 0)],
  [(305, .bipush 97, 2, 0), (307, .bipush 116, 2, 0), (309, .bipush 115, 2, 0), (311, .iconst 0, 1, 0), (312, .invokestatic 154, 3, 3), (315, .lreturn, 1, 6)]]
theorem nn_d218 : ab_dtok prog_14_method_19_code nn_dt218 = true := dw_ok (by decide +kernel)
def nn_dt219 : ab_DT := [[(0, .ldc2_w 150, 3, 0), (3, .iload_n 0, 1, 0), (4, .i2l, 1, 0), (5, .ldc2_w 152, 3, 0), (8, .lsub, 1, 0), (9, .lmul, 1, 0), (10, .iload_n 1, 1, 0), (11, .i2l, 1, 0), (12, .ladd, 1, 0), (13, .ldc2_w 152, 3, 0)],
  [(16, .lsub, 1, 0), (17, .lstore 6, 2, 0), (19, .iload_n 2, 1, 0), (20, .ifCond .le 18, 3, 2), (23, .ldc2_w 150, 3, 0), (26, .lload 6, 2, 0), (28, .lmul, 1, 0), (29, .iload_n 2, 1, 0), (30, .i2l, 1, 0), (31, .ladd, 1, 0)],
  [(32, .ldc2_w 152, 3, 0), (35, .lsub, 1, 0), (36, .lstore 6, 2, 0), (38, .iload_n 3, 1, 0), (39, .ifCond .le 18, 3, 2), (42, .ldc2_w 150, 3, 0), (45, .lload 6, 2, 0), (47, .lmul, 1, 0)],
  [(48, .iload_n 3, 1, 0), (49, .i2l, 1, 0), (50, .ladd, 1, 0), (51, .ldc2_w 152, 3, 0), (54, .lsub, 1, 0), (55, .lstore 6, 2, 0), (57, .iload 4, 2, 0), (59, .ifCond .le 19, 3, 2), (62, .ldc2_w 150, 3, 0)],
  [(65, .lload 6, 2, 0), (67, .lmul, 1, 0), (68, .iload 4, 2, 0), (70, .i2l, 1, 0), (71, .ladd, 1, 0), (72, .ldc2_w 152, 3, 0), (75, .lsub, 1, 0), (76, .lstore 6, 2, 0), (78, .iload 5, 2, 0)],
  [(80, .ifCond .le 20, 3, 2), (83, .ldc2_w 150, 3, 0), (86, .lload 6, 2, 0), (88, .lmul, 1, 0), (89, .iload 5, 2, 0), (91, .i2l, 1, 0), (92, .ladd, 1, 0), (93, .ldc2_w 152, 3, 0)],
  [(96, .lsub, 1, 0), (97, .goto 5, 3, 2), (100, .lload 6, 2, 0), (102, .lreturn, 1, 6)]]
theorem nn_d219 : ab_dtok prog_14_method_18_code nn_dt219 = true := dw_ok (by decide +kernel)
def nn_dt220 : ab_DT := [[(0, .aload_n 0, 1, 0), (1, .getfield 16, 3, 1), (4, .iconst 0, 1, 0), (5, .iaload, 1, 1), (6, .istore_n 1, 1, 0), (7, .iload_n 1, 1, 0), (8, .bipush 9, 2, 0), (10, .if_icmp .ne 9, 3, 2), (13, .aload_n 0, 1, 0), (14, .iconst 4, 1, 0), (15, .invokevirtual 168, 3, 3)],
  [(18, .ireturn, 1, 6), (19, .aload_n 0, 1, 0), (20, .invokevirtual 182, 3, 3), (23, .aload_n 0, 1, 0), (24, .iload_n 1, 1, 0), (25, .invokevirtual 207, 3, 3), (28, .ifCond .ne 5, 3, 2), (31, .iconst 0, 1, 0)],
  [(32, .ireturn, 1, 6), (33, .iconst 5, 1, 0), (34, .bipush 19, 2, 0), (36, .iload_n 1, 1, 0), (37, .imul, 1, 0), (38, .iadd, 1, 0), (39, .istore_n 2, 1, 0), (40, .aload_n 0, 1, 0), (41, .getfield 16, 3, 1), (44, .iload_n 2, 1, 0), (45, .iconst 0, 1, 0), (46, .iastore, 1, 1), (47, .aload_n 0, 1, 0)],
  [(48, .getfield 16, 3, 1), (51, .iload_n 2, 1, 0), (52, .iaload, 1, 1), (53, .ifCond .eq 11, 3, 2), (56, .aload_n 0, 1, 0), (57, .getfield 126, 3, 1), (60, .iconst 3, 1, 0), (61, .if_icmp .ne 103, 3, 2)],
  [(64, .aload_n 0, 1, 0), (65, .iconst 0, 1, 0), (66, .bipush 24, 2, 0), (68, .invokevirtual 178, 3, 3), (71, .ifCond .ne 5, 3, 2), (74, .iconst 0, 1, 0), (75, .ireturn, 1, 6), (76, .aload_n 0, 1, 0), (77, .getfield 16, 3, 1)],
  [(80, .iload_n 2, 1, 0), (81, .iaload, 1, 1), (82, .bipush 9, 2, 0), (84, .if_icmp .ne 9, 3, 2), (87, .aload_n 0, 1, 0), (88, .iconst 4, 1, 0), (89, .invokevirtual 168, 3, 3), (92, .ireturn, 1, 6), (93, .aload_n 0, 1, 0), (94, .getfield 16, 3, 1)],
  [(97, .iload_n 2, 1, 0), (98, .iconst 1, 1, 0), (99, .iadd, 1, 0), (100, .iconst 2, 1, 0), (101, .aload_n 0, 1, 0), (102, .getfield 16, 3, 1), (105, .iload_n 2, 1, 0), (106, .iaload, 1, 1), (107, .imul, 1, 0), (108, .iadd, 1, 0), (109, .aload_n 0, 1, 0), (110, .getfield 175, 3, 1)],
  [(113, .iastore, 1, 1), (114, .aload_n 0, 1, 0), (115, .invokevirtual 182, 3, 3), (118, .aload_n 0, 1, 0), (119, .iconst 1, 1, 0), (120, .bipush 9, 2, 0), (122, .invokevirtual 210, 3, 3), (125, .ifCond .ne 5, 3, 2)],
  [(128, .iconst 0, 1, 0), (129, .ireturn, 1, 6), (130, .aload_n 0, 1, 0), (131, .getfield 16, 3, 1), (134, .iload_n 2, 1, 0), (135, .iconst 2, 1, 0), (136, .iadd, 1, 0), (137, .iconst 2, 1, 0), (138, .aload_n 0, 1, 0), (139, .getfield 16, 3, 1), (142, .iload_n 2, 1, 0), (143, .iaload, 1, 1)],
  [(144, .imul, 1, 0), (145, .iadd, 1, 0), (146, .aload_n 0, 1, 0), (147, .getfield 175, 3, 1), (150, .iastore, 1, 1), (151, .aload_n 0, 1, 0), (152, .getfield 16, 3, 1), (155, .iload_n 2, 1, 0), (156, .dup2, 1, 0), (157, .iaload, 1, 1), (158, .iconst 1, 1, 0), (159, .iadd, 1, 0)],
  [(160, .iastore, 1, 1), (161, .goto (-114), 3, 2), (164, .aload_n 0, 1, 0), (165, .getfield 16, 3, 1), (168, .iconst 0, 1, 0), (169, .dup2, 1, 0), (170, .iaload, 1, 1), (171, .iconst 1, 1, 0), (172, .iadd, 1, 0), (173, .iastore, 1, 1), (174, .iconst 1, 1, 0), (175, .ireturn, 1, 6)]]
theorem nn_d220 : ab_dtok prog_14_method_32_code nn_dt220 = true := dw_ok (by decide +kernel)
def nn_dt221 : ab_DT := [[(0, .aload_n 0, 1, 0), (1, .aload_n 0, 1, 0), (2, .getfield 126, 3, 1), (5, .iconst 1, 1, 0), (6, .if_icmp .ne 7, 3, 2), (9, .iconst 1, 1, 0), (10, .goto 4, 3, 2), (13, .iload_n 1, 1, 0), (14, .putfield 162, 3, 1)],
  [(17, .aload_n 0, 1, 0), (18, .aload_n 0, 1, 0), (19, .getfield 120, 3, 1), (22, .putfield 165, 3, 1), (25, .iconst 0, 1, 0), (26, .ireturn, 1, 6)]]
theorem nn_d221 : ab_dtok prog_14_method_23_code nn_dt221 = true := dw_ok (by decide +kernel)
def nn_dt222 : ab_DT := [[(0, .aload_n 0, 1, 0), (1, .invokevirtual 199, 3, 3), (4, .ifCond .ne 9, 3, 2), (7, .aload_n 0, 1, 0), (8, .iconst 1, 1, 0), (9, .invokevirtual 168, 3, 3), (12, .ireturn, 1, 6), (13, .aload_n 0, 1, 0), (14, .getfield 29, 3, 1)],
  [(17, .iconst 0, 1, 0), (18, .aload_n 0, 1, 0), (19, .getfield 16, 3, 1), (22, .iconst 0, 1, 0), (23, .iaload, 1, 1), (24, .aload_n 0, 1, 0), (25, .getfield 139, 3, 1), (28, .invokestatic 203, 3, 3), (31, .iconst (-1), 1, 0)],
  [(32, .if_icmp .ne 49, 3, 2), (35, .aload_n 0, 1, 0), (36, .getfield 29, 3, 1), (39, .bipush 9, 2, 0), (41, .aload_n 0, 1, 0), (42, .getfield 16, 3, 1), (45, .iconst 1, 1, 0), (46, .iaload, 1, 1), (47, .aload_n 0, 1, 0)],
  [(48, .getfield 139, 3, 1), (51, .invokestatic 203, 3, 3), (54, .iconst (-1), 1, 0), (55, .if_icmp .ne 26, 3, 2), (58, .aload_n 0, 1, 0), (59, .getfield 29, 3, 1), (62, .bipush 15, 2, 0)],
  [(64, .aload_n 0, 1, 0), (65, .getfield 16, 3, 1), (68, .iconst 2, 1, 0), (69, .iaload, 1, 1), (70, .aload_n 0, 1, 0), (71, .getfield 139, 3, 1), (74, .invokestatic 203, 3, 3), (77, .iconst (-1), 1, 0), (78, .if_icmp .eq 7, 3, 2)],
  [(81, .iconst 1, 1, 0), (82, .goto 4, 3, 2), (85, .iconst 0, 1, 0), (86, .istore_n 2, 1, 0), (87, .iload_n 2, 1, 0), (88, .ifCond .eq 9, 3, 2), (91, .aload_n 0, 1, 0), (92, .iconst 3, 1, 0), (93, .invokevirtual 168, 3, 3)],
  [(96, .ireturn, 1, 6), (97, .aload_n 0, 1, 0), (98, .getfield 29, 3, 1), (101, .iload_n 1, 1, 0), (102, .aload_n 0, 1, 0), (103, .getfield 139, 3, 1), (106, .lastore, 1, 1), (107, .aload_n 0, 1, 0), (108, .invokevirtual 182, 3, 3), (111, .iconst 1, 1, 0)],
  [(112, .ireturn, 1, 6)]]
theorem nn_d222 : ab_dtok prog_14_method_30_code nn_dt222 = true := dw_ok (by decide +kernel)
def nn_dt223 : ab_DT := [[(0, .aload_n 0, 1, 0), (1, .getfield 126, 3, 1), (4, .iconst 2, 1, 0), (5, .if_icmp .eq 5, 3, 2), (8, .iconst 0, 1, 0), (9, .ireturn, 1, 6), (10, .iconst 0, 1, 0), (11, .istore_n 1, 1, 0), (12, .iload_n 1, 1, 0), (13, .bipush 16, 2, 0), (15, .if_icmp .gt 23, 3, 2)],
  [(18, .aload_n 0, 1, 0), (19, .getfield 139, 3, 1), (22, .iload_n 1, 1, 0), (23, .invokestatic 158, 3, 3), (26, .lcmp, 1, 2), (27, .ifCond .ne 5, 3, 2), (30, .iconst 0, 1, 0), (31, .ireturn, 1, 6)],
  [(32, .iinc 1 1, 3, 0), (35, .goto (-23), 3, 2), (38, .iconst 1, 1, 0), (39, .ireturn, 1, 6)]]
theorem nn_d223 : ab_dtok prog_14_method_22_code nn_dt223 = true := dw_ok (by decide +kernel)
def nn_dt224 : ab_DT := [[(0, .iconst 0, 1, 0), (1, .istore 5, 2, 0), (3, .iload 5, 2, 0), (5, .iload_n 2, 1, 0), (6, .if_icmp .ge 23, 3, 2), (9, .aload_n 0, 1, 0), (10, .iload_n 1, 1, 0), (11, .iload 5, 2, 0), (13, .iadd, 1, 0), (14, .laload, 1, 1), (15, .lload_n 3, 1, 0)],
  [(16, .lcmp, 1, 2), (17, .ifCond .ne 6, 3, 2), (20, .iload 5, 2, 0), (22, .ireturn, 1, 6), (23, .iinc 5 1, 3, 0), (26, .goto (-23), 3, 2), (29, .iconst (-1), 1, 0), (30, .ireturn, 1, 6)]]
theorem nn_d224 : ab_dtok prog_14_method_29_code nn_dt224 = true := dw_ok (by decide +kernel)
def nn_dt225 : ab_DT := [[(0, .aload_n 0, 1, 0), (1, .getfield 126, 3, 1), (4, .iconst 3, 1, 0), (5, .if_icmp .eq 9, 3, 2), (8, .aload_n 0, 1, 0), (9, .iconst 1, 1, 0), (10, .invokevirtual 168, 3, 3), (13, .ireturn, 1, 6), (14, .aload_n 0, 1, 0), (15, .getfield 143, 3, 1)],
  [(18, .iload_n 1, 1, 0), (19, .iload_n 2, 1, 0), (20, .invokestatic 171, 3, 3), (23, .ifCond .ne 9, 3, 2), (26, .aload_n 0, 1, 0), (27, .iconst 2, 1, 0), (28, .invokevirtual 168, 3, 3), (31, .ireturn, 1, 6)],
  [(32, .aload_n 0, 1, 0), (33, .aload_n 0, 1, 0), (34, .getfield 143, 3, 1), (37, .putfield 175, 3, 1), (40, .iconst 1, 1, 0), (41, .ireturn, 1, 6)]]
theorem nn_d225 : ab_dtok prog_14_method_24_code nn_dt225 = true := dw_ok (by decide +kernel)
def nn_dt226 : ab_DT := [[(0, .iload_n 0, 1, 0), (1, .iload_n 1, 1, 0), (2, .if_icmp .lt 12, 3, 2), (5, .iload_n 0, 1, 0), (6, .iload_n 2, 1, 0), (7, .if_icmp .gt 7, 3, 2), (10, .iconst 1, 1, 0), (11, .goto 4, 3, 2), (14, .iconst 0, 1, 0), (15, .ireturn, 1, 6)]]
theorem nn_d226 : ab_dtok prog_14_method_8_code nn_dt226 = true := dw_ok (by decide +kernel)
def nn_dt227 : ab_DT := [[(0, .aload_n 0, 1, 0), (1, .iload_n 1, 1, 0), (2, .iload_n 2, 1, 0), (3, .invokevirtual 178, 3, 3), (6, .ifCond .ne 5, 3, 2), (9, .iconst 0, 1, 0), (10, .ireturn, 1, 6), (11, .aload_n 0, 1, 0), (12, .invokevirtual 182, 3, 3), (15, .iconst 1, 1, 0)],
  [(16, .ireturn, 1, 6)]]
theorem nn_d227 : ab_dtok prog_14_method_25_code nn_dt227 = true := dw_ok (by decide +kernel)
def nn_dt228 : ab_DT := [[(0, .aload_n 0, 1, 0), (1, .getfield 16, 3, 1), (4, .iconst 1, 1, 0), (5, .iaload, 1, 1), (6, .istore_n 1, 1, 0), (7, .iload_n 1, 1, 0), (8, .bipush 6, 2, 0), (10, .if_icmp .ne 9, 3, 2), (13, .aload_n 0, 1, 0), (14, .iconst 4, 1, 0), (15, .invokevirtual 168, 3, 3)],
  [(18, .ireturn, 1, 6), (19, .aload_n 0, 1, 0), (20, .invokevirtual 182, 3, 3), (23, .aload_n 0, 1, 0), (24, .bipush 9, 2, 0), (26, .iload_n 1, 1, 0), (27, .iadd, 1, 0), (28, .invokevirtual 207, 3, 3), (31, .ifCond .ne 5, 3, 2)],
  [(34, .iconst 0, 1, 0), (35, .ireturn, 1, 6), (36, .aload_n 0, 1, 0), (37, .getfield 16, 3, 1), (40, .sipush 176, 3, 0), (43, .iload_n 1, 1, 0), (44, .iadd, 1, 0), (45, .iconst 0, 1, 0), (46, .iastore, 1, 1), (47, .aload_n 0, 1, 0)],
  [(48, .getfield 16, 3, 1), (51, .sipush 176, 3, 0), (54, .iload_n 1, 1, 0), (55, .iadd, 1, 0), (56, .iaload, 1, 1), (57, .ifCond .eq 11, 3, 2), (60, .aload_n 0, 1, 0), (61, .getfield 126, 3, 1)],
  [(64, .iconst 2, 1, 0), (65, .if_icmp .ne 71, 3, 2), (68, .aload_n 0, 1, 0), (69, .iconst 0, 1, 0), (70, .aload_n 0, 1, 0), (71, .getfield 16, 3, 1), (74, .iconst 0, 1, 0), (75, .iaload, 1, 1), (76, .invokevirtual 213, 3, 3), (79, .ifCond .ne 5, 3, 2)],
  [(82, .iconst 0, 1, 0), (83, .ireturn, 1, 6), (84, .aload_n 0, 1, 0), (85, .getfield 16, 3, 1), (88, .sipush 176, 3, 0), (91, .iload_n 1, 1, 0), (92, .iadd, 1, 0), (93, .iaload, 1, 1), (94, .aload_n 0, 1, 0), (95, .getfield 175, 3, 1)],
  [(98, .invokestatic 216, 3, 3), (101, .ifCond .eq 9, 3, 2), (104, .aload_n 0, 1, 0), (105, .iconst 3, 1, 0), (106, .invokevirtual 168, 3, 3), (109, .ireturn, 1, 6), (110, .aload_n 0, 1, 0), (111, .getfield 16, 3, 1)],
  [(114, .sipush 176, 3, 0), (117, .iload_n 1, 1, 0), (118, .iadd, 1, 0), (119, .dup2, 1, 0), (120, .iaload, 1, 1), (121, .iconst 1, 1, 0), (122, .aload_n 0, 1, 0), (123, .getfield 175, 3, 1), (126, .ishl, 1, 0), (127, .ior, 1, 0)],
  [(128, .iastore, 1, 1), (129, .aload_n 0, 1, 0), (130, .invokevirtual 182, 3, 3), (133, .goto (-86), 3, 2), (136, .aload_n 0, 1, 0), (137, .getfield 16, 3, 1), (140, .iconst 1, 1, 0), (141, .dup2, 1, 0), (142, .iaload, 1, 1), (143, .iconst 1, 1, 0)],
  [(144, .iadd, 1, 0), (145, .iastore, 1, 1), (146, .iconst 1, 1, 0), (147, .ireturn, 1, 6)]]
theorem nn_d228 : ab_dtok prog_14_method_33_code nn_dt228 = true := dw_ok (by decide +kernel)
def nn_dt229 : ab_DT := [[(0, .aload_n 0, 1, 0), (1, .invokevirtual 199, 3, 3), (4, .ifCond .ne 9, 3, 2), (7, .aload_n 0, 1, 0), (8, .iconst 1, 1, 0), (9, .invokevirtual 168, 3, 3), (12, .ireturn, 1, 6), (13, .aload_n 0, 1, 0), (14, .aload_n 0, 1, 0), (15, .getfield 29, 3, 1)],
  [(18, .iload_n 1, 1, 0), (19, .iload_n 2, 1, 0), (20, .aload_n 0, 1, 0), (21, .getfield 139, 3, 1), (24, .invokestatic 203, 3, 3), (27, .putfield 175, 3, 1), (30, .aload_n 0, 1, 0), (31, .getfield 175, 3, 1)],
  [(34, .iconst (-1), 1, 0), (35, .if_icmp .ne 11, 3, 2), (38, .aload_n 0, 1, 0), (39, .iconst 3, 1, 0), (40, .invokevirtual 168, 3, 3), (43, .ifCond .eq 7, 3, 2), (46, .iconst 1, 1, 0), (47, .goto 4, 3, 2)],
  [(50, .iconst 0, 1, 0), (51, .ireturn, 1, 6)]]
theorem nn_d229 : ab_dtok prog_14_method_31_code nn_dt229 = true := dw_ok (by decide +kernel)
def nn_dt230 : ab_DT := [[(0, .iload_n 0, 1, 0), (1, .iload_n 1, 1, 0), (2, .ishr, 1, 0), (3, .iconst 1, 1, 0), (4, .iand, 1, 0), (5, .iconst 1, 1, 0), (6, .if_icmp .ne 7, 3, 2), (9, .iconst 1, 1, 0), (10, .goto 4, 3, 2), (13, .iconst 0, 1, 0), (14, .ireturn, 1, 6)]]
theorem nn_d230 : ab_dtok prog_14_method_9_code nn_dt230 = true := dw_ok (by decide +kernel)
def nn_dt231 : ab_DT := [[(0, .aload_n 0, 1, 0), (1, .getfield 16, 3, 1), (4, .iconst 2, 1, 0), (5, .iaload, 1, 1), (6, .istore_n 1, 1, 0), (7, .iload_n 1, 1, 0), (8, .iconst 5, 1, 0), (9, .if_icmp .ne 9, 3, 2), (12, .aload_n 0, 1, 0), (13, .iconst 4, 1, 0), (14, .invokevirtual 168, 3, 3)],
  [(17, .ireturn, 1, 6), (18, .aload_n 0, 1, 0), (19, .invokevirtual 182, 3, 3), (22, .aload_n 0, 1, 0), (23, .bipush 15, 2, 0), (25, .iload_n 1, 1, 0), (26, .iadd, 1, 0), (27, .invokevirtual 207, 3, 3), (30, .ifCond .ne 5, 3, 2)],
  [(33, .iconst 0, 1, 0), (34, .ireturn, 1, 6), (35, .aload_n 0, 1, 0), (36, .getfield 16, 3, 1), (39, .sipush 227, 3, 0), (42, .iload_n 1, 1, 0), (43, .iadd, 1, 0), (44, .iconst 5, 1, 0), (45, .iastore, 1, 1), (46, .aload_n 0, 1, 0), (47, .getfield 16, 3, 1)],
  [(50, .iconst 2, 1, 0), (51, .dup2, 1, 0), (52, .iaload, 1, 1), (53, .iconst 1, 1, 0), (54, .iadd, 1, 0), (55, .iastore, 1, 1), (56, .iconst 1, 1, 0), (57, .ireturn, 1, 6)]]
theorem nn_d231 : ab_dtok prog_14_method_34_code nn_dt231 = true := dw_ok (by decide +kernel)
def nn_dt232 : ab_DT := [[(0, .aload_n 0, 1, 0), (1, .invokevirtual 182, 3, 3), (4, .aload_n 0, 1, 0), (5, .bipush 15, 2, 0), (7, .aload_n 0, 1, 0), (8, .getfield 16, 3, 1), (11, .iconst 2, 1, 0), (12, .iaload, 1, 1), (13, .invokevirtual 213, 3, 3)],
  [(16, .ifCond .ne 5, 3, 2), (19, .iconst 0, 1, 0), (20, .ireturn, 1, 6), (21, .aload_n 0, 1, 0), (22, .getfield 175, 3, 1), (25, .istore_n 1, 1, 0), (26, .aload_n 0, 1, 0), (27, .invokevirtual 182, 3, 3), (30, .aload_n 0, 1, 0), (31, .iconst 0, 1, 0)],
  [(32, .aload_n 0, 1, 0), (33, .getfield 16, 3, 1), (36, .iconst 0, 1, 0), (37, .iaload, 1, 1), (38, .invokevirtual 213, 3, 3), (41, .ifCond .ne 5, 3, 2), (44, .iconst 0, 1, 0), (45, .ireturn, 1, 6), (46, .aload_n 0, 1, 0), (47, .getfield 175, 3, 1)],
  [(50, .istore_n 2, 1, 0), (51, .aload_n 0, 1, 0), (52, .getfield 39, 3, 1), (55, .iload_n 1, 1, 0), (56, .iaload, 1, 1), (57, .iload_n 2, 1, 0), (58, .invokestatic 216, 3, 3), (61, .ifCond .eq 9, 3, 2)],
  [(64, .aload_n 0, 1, 0), (65, .iconst 3, 1, 0), (66, .invokevirtual 168, 3, 3), (69, .ireturn, 1, 6), (70, .aload_n 0, 1, 0), (71, .getfield 39, 3, 1), (74, .iload_n 1, 1, 0), (75, .dup2, 1, 0), (76, .iaload, 1, 1), (77, .iconst 1, 1, 0), (78, .iload_n 2, 1, 0), (79, .ishl, 1, 0)],
  [(80, .ior, 1, 0), (81, .iastore, 1, 1), (82, .aload_n 0, 1, 0), (83, .invokevirtual 182, 3, 3), (86, .aload_n 0, 1, 0), (87, .iconst 0, 1, 0), (88, .bipush 9, 2, 0), (90, .invokevirtual 210, 3, 3), (93, .ifCond .ne 5, 3, 2)],
  [(96, .iconst 0, 1, 0), (97, .ireturn, 1, 6), (98, .aload_n 0, 1, 0), (99, .getfield 16, 3, 1), (102, .sipush 182, 3, 0), (105, .bipush 9, 2, 0), (107, .iload_n 1, 1, 0), (108, .imul, 1, 0), (109, .iadd, 1, 0), (110, .iload_n 2, 1, 0), (111, .iadd, 1, 0)],
  [(112, .aload_n 0, 1, 0), (113, .getfield 175, 3, 1), (116, .iastore, 1, 1), (117, .iconst 1, 1, 0), (118, .ireturn, 1, 6)]]
theorem nn_d232 : ab_dtok prog_14_method_35_code nn_dt232 = true := dw_ok (by decide +kernel)
def nn_dt233 : ab_DT := [[(0, .aload_n 0, 1, 0), (1, .invokevirtual 182, 3, 3), (4, .aload_n 0, 1, 0), (5, .bipush 15, 2, 0), (7, .aload_n 0, 1, 0), (8, .getfield 16, 3, 1), (11, .iconst 2, 1, 0), (12, .iaload, 1, 1), (13, .invokevirtual 213, 3, 3)],
  [(16, .ifCond .ne 5, 3, 2), (19, .iconst 0, 1, 0), (20, .ireturn, 1, 6), (21, .aload_n 0, 1, 0), (22, .getfield 175, 3, 1), (25, .istore_n 1, 1, 0), (26, .aload_n 0, 1, 0), (27, .getfield 219, 3, 1), (30, .iload_n 1, 1, 0), (31, .invokestatic 216, 3, 3)],
  [(34, .ifCond .eq 9, 3, 2), (37, .aload_n 0, 1, 0), (38, .iconst 3, 1, 0), (39, .invokevirtual 168, 3, 3), (42, .ireturn, 1, 6), (43, .aload_n 0, 1, 0), (44, .dup, 1, 0), (45, .getfield 219, 3, 1)],
  [(48, .iconst 1, 1, 0), (49, .iload_n 1, 1, 0), (50, .ishl, 1, 0), (51, .ior, 1, 0), (52, .putfield 219, 3, 1), (55, .aload_n 0, 1, 0), (56, .invokevirtual 182, 3, 3), (59, .aload_n 0, 1, 0), (60, .iconst 0, 1, 0), (61, .bipush 9, 2, 0), (63, .invokevirtual 210, 3, 3)],
  [(66, .ifCond .ne 5, 3, 2), (69, .iconst 0, 1, 0), (70, .ireturn, 1, 6), (71, .aload_n 0, 1, 0), (72, .getfield 16, 3, 1), (75, .sipush 227, 3, 0), (78, .iload_n 1, 1, 0), (79, .iadd, 1, 0)],
  [(80, .aload_n 0, 1, 0), (81, .getfield 175, 3, 1), (84, .iastore, 1, 1), (85, .iconst 1, 1, 0), (86, .ireturn, 1, 6)]]
theorem nn_d233 : ab_dtok prog_14_method_36_code nn_dt233 = true := dw_ok (by decide +kernel)
def nn_dt234 : ab_DT := [[(0, .aload_n 0, 1, 0), (1, .getfield 222, 3, 1), (4, .ifCond .le 9, 3, 2), (7, .aload_n 0, 1, 0), (8, .iconst 3, 1, 0), (9, .invokevirtual 168, 3, 3), (12, .ireturn, 1, 6), (13, .aload_n 0, 1, 0), (14, .iconst 1, 1, 0), (15, .putfield 222, 3, 1)],
  [(18, .aload_n 0, 1, 0), (19, .invokevirtual 182, 3, 3), (22, .aload_n 0, 1, 0), (23, .iconst 1, 1, 0), (24, .bipush 9, 2, 0), (26, .invokevirtual 210, 3, 3), (29, .ifCond .ne 5, 3, 2)],
  [(32, .iconst 0, 1, 0), (33, .ireturn, 1, 6), (34, .aload_n 0, 1, 0), (35, .getfield 16, 3, 1), (38, .iconst 3, 1, 0), (39, .aload_n 0, 1, 0), (40, .getfield 175, 3, 1), (43, .iastore, 1, 1), (44, .iconst 1, 1, 0), (45, .ireturn, 1, 6)]]
theorem nn_d234 : ab_dtok prog_14_method_37_code nn_dt234 = true := dw_ok (by decide +kernel)
def nn_dt235 : ab_DT := [[(0, .aload_n 0, 1, 0), (1, .bipush 59, 2, 0), (3, .invokevirtual 185, 3, 3), (6, .ifCond .ne 9, 3, 2), (9, .aload_n 0, 1, 0), (10, .iconst 1, 1, 0), (11, .invokevirtual 168, 3, 3), (14, .ireturn, 1, 6), (15, .aload_n 0, 1, 0)],
  [(16, .invokevirtual 182, 3, 3), (19, .iconst 1, 1, 0), (20, .ireturn, 1, 6)]]
theorem nn_d235 : ab_dtok prog_14_method_26_code nn_dt235 = true := dw_ok (by decide +kernel)
def nn_dt236 : ab_DT := [[(0, .aload_n 0, 1, 0), (1, .getfield 126, 3, 1), (4, .iconst 4, 1, 0), (5, .if_icmp .ne 15, 3, 2), (8, .aload_n 0, 1, 0), (9, .getfield 136, 3, 1), (12, .iload_n 1, 1, 0), (13, .if_icmp .ne 7, 3, 2)],
  [(16, .iconst 1, 1, 0), (17, .goto 4, 3, 2), (20, .iconst 0, 1, 0), (21, .ireturn, 1, 6)]]
theorem nn_d236 : ab_dtok prog_14_method_21_code nn_dt236 = true := dw_ok (by decide +kernel)
def nn_dt237 : ab_DT := [[(0, .aload_n 0, 1, 0), (1, .iconst 0, 1, 0), (2, .putfield 100, 3, 1), (5, .aload_n 0, 1, 0), (6, .getfield 162, 3, 1), (9, .ireturn, 1, 6)]]
theorem nn_d237 : ab_dtok prog_14_method_40_code nn_dt237 = true := dw_ok (by decide +kernel)
def nn_dt238 : ab_DT := [[(0, .aload_n 0, 1, 0), (1, .iconst 0, 1, 0), (2, .putfield 100, 3, 1), (5, .aload_n 0, 1, 0), (6, .iload_n 1, 1, 0), (7, .invokevirtual 267, 3, 3), (10, .ifCond .eq 35, 3, 2), (13, .iload_n 2, 1, 0), (14, .ifCond .lt 31, 3, 2)],
  [(17, .iload_n 2, 1, 0), (18, .aload_n 0, 1, 0), (19, .iload_n 1, 1, 0), (20, .invokevirtual 270, 3, 3), (23, .if_icmp .ge 22, 3, 2), (26, .iload_n 3, 1, 0), (27, .iconst 0, 1, 0), (28, .iconst 1, 1, 0), (29, .invokestatic 171, 3, 3)],
  [(32, .ifCond .eq 13, 3, 2), (35, .aload_n 0, 1, 0), (36, .iload_n 1, 1, 0), (37, .iload_n 2, 1, 0), (38, .iload_n 3, 1, 0), (39, .invokevirtual 273, 3, 3), (42, .goto 4, 3, 2), (45, .iconst (-1), 1, 0), (46, .ireturn, 1, 6)]]
theorem nn_d238 : ab_dtok prog_14_method_49_code nn_dt238 = true := dw_ok (by decide +kernel)
def nn_dt239 : ab_DT := [[(0, .iload_n 1, 1, 0), (1, .ifCond .lt 15, 3, 2), (4, .iload_n 1, 1, 0), (5, .aload_n 0, 1, 0), (6, .invokevirtual 261, 3, 3), (9, .if_icmp .ge 7, 3, 2), (12, .iconst 1, 1, 0), (13, .goto 4, 3, 2)],
  [(16, .iconst 0, 1, 0), (17, .ireturn, 1, 6)]]
theorem nn_d239 : ab_dtok prog_14_method_42_code nn_dt239 = true := dw_ok (by decide +kernel)
def nn_DT_200 : List ab_DT := [nn_dt200, nn_dt201, nn_dt202, nn_dt203, nn_dt204, nn_dt205, nn_dt206, nn_dt207, nn_dt208, nn_dt209, nn_dt210, nn_dt211, nn_dt212, nn_dt213, nn_dt214, nn_dt215, nn_dt216, nn_dt217, nn_dt218, nn_dt219, nn_dt220, nn_dt221, nn_dt222, nn_dt223, nn_dt224, nn_dt225, nn_dt226, nn_dt227, nn_dt228, nn_dt229, nn_dt230, nn_dt231, nn_dt232, nn_dt233, nn_dt234, nn_dt235, nn_dt236, nn_dt237, nn_dt238, nn_dt239]
theorem nn_DT_200_ok : ab_dtP nn_MT_200 nn_DT_200 := ⟨nn_d200, nn_d201, nn_d202, nn_d203, nn_d204, nn_d205, nn_d206, nn_d207, nn_d208, nn_d209, nn_d210, nn_d211, nn_d212, nn_d213, nn_d214, nn_d215, nn_d216, nn_d217, nn_d218, nn_d219, nn_d220, nn_d221, nn_d222, nn_d223, nn_d224, nn_d225, nn_d226, nn_d227, nn_d228, nn_d229, nn_d230, nn_d231, nn_d232, nn_d233, nn_d234, nn_d235, nn_d236, nn_d237, nn_d238, nn_d239, trivial⟩
end
section
def nn_dt240 : ab_DT := [[(0, .aload_n 0, 1, 0), (1, .getfield 13, 3, 1), (4, .iconst 0, 1, 0), (5, .iaload, 1, 1), (6, .ireturn, 1, 6)]]
theorem nn_d240 : ab_dtok prog_14_method_41_code nn_dt240 = true := dw_ok (by decide +kernel)
def nn_dt241 : ab_DT := [[(0, .aload_n 0, 1, 0), (1, .getfield 13, 3, 1), (4, .iconst 5, 1, 0), (5, .bipush 19, 2, 0), (7, .iload_n 1, 1, 0), (8, .imul, 1, 0), (9, .iadd, 1, 0), (10, .iaload, 1, 1), (11, .ireturn, 1, 6)]]
theorem nn_d241 : ab_dtok prog_14_method_45_code nn_dt241 = true := dw_ok (by decide +kernel)
def nn_dt242 : ab_DT := [[(0, .aload_n 0, 1, 0), (1, .getfield 13, 3, 1), (4, .iconst 5, 1, 0), (5, .bipush 19, 2, 0), (7, .iload_n 1, 1, 0), (8, .imul, 1, 0), (9, .iadd, 1, 0), (10, .iconst 1, 1, 0), (11, .iadd, 1, 0), (12, .iconst 2, 1, 0), (13, .iload_n 2, 1, 0), (14, .imul, 1, 0), (15, .iadd, 1, 0)],
  [(16, .iload_n 3, 1, 0), (17, .iadd, 1, 0), (18, .iaload, 1, 1), (19, .ireturn, 1, 6)]]
theorem nn_d242 : ab_dtok prog_14_method_46_code nn_dt242 = true := dw_ok (by decide +kernel)
def nn_dt243 : ab_DT := [[(0, .aload_n 0, 1, 0), (1, .iconst 0, 1, 0), (2, .putfield 100, 3, 1), (5, .aload_n 0, 1, 0), (6, .iload_n 1, 1, 0), (7, .invokevirtual 267, 3, 3), (10, .ifCond .eq 21, 3, 2), (13, .iload_n 2, 1, 0), (14, .iconst 0, 1, 0), (15, .iconst 3, 1, 0)],
  [(16, .invokestatic 171, 3, 3), (19, .ifCond .eq 12, 3, 2), (22, .aload_n 0, 1, 0), (23, .iload_n 1, 1, 0), (24, .iload_n 2, 1, 0), (25, .invokevirtual 277, 3, 3), (28, .goto 4, 3, 2), (31, .iconst (-1), 1, 0)],
  [(32, .ireturn, 1, 6)]]
theorem nn_d243 : ab_dtok prog_14_method_51_code nn_dt243 = true := dw_ok (by decide +kernel)
def nn_dt244 : ab_DT := [[(0, .iload_n 2, 1, 0), (1, .ifCond .ne 9, 3, 2), (4, .aload_n 0, 1, 0), (5, .iload_n 1, 1, 0), (6, .invokevirtual 270, 3, 3), (9, .ireturn, 1, 6), (10, .iload_n 2, 1, 0), (11, .iconst 3, 1, 0), (12, .if_icmp .ne 7, 3, 2), (15, .iconst 0, 1, 0)],
  [(16, .goto 10, 3, 2), (19, .aload_n 0, 1, 0), (20, .iload_n 1, 1, 0), (21, .iconst 0, 1, 0), (22, .iconst 0, 1, 0), (23, .invokevirtual 273, 3, 3), (26, .istore_n 3, 1, 0), (27, .iconst 0, 1, 0), (28, .istore 4, 2, 0), (30, .iload 4, 2, 0)],
  [(32, .aload_n 0, 1, 0), (33, .iload_n 1, 1, 0), (34, .invokevirtual 270, 3, 3), (37, .if_icmp .ge 61, 3, 2), (40, .aload_n 0, 1, 0), (41, .iload_n 1, 1, 0), (42, .iload 4, 2, 0), (44, .iconst 0, 1, 0), (45, .invokevirtual 273, 3, 3)],
  [(48, .istore 5, 2, 0), (50, .iload_n 2, 1, 0), (51, .iconst 3, 1, 0), (52, .if_icmp .ne 17, 3, 2), (55, .iload_n 3, 1, 0), (56, .aload_n 0, 1, 0), (57, .iload_n 1, 1, 0), (58, .iload 4, 2, 0), (60, .iconst 1, 1, 0), (61, .invokevirtual 273, 3, 3)],
  [(64, .iadd, 1, 0), (65, .istore_n 3, 1, 0), (66, .goto 26, 3, 2), (69, .iload_n 2, 1, 0), (70, .iconst 1, 1, 0), (71, .if_icmp .ne 12, 3, 2), (74, .iload 5, 2, 0), (76, .iload_n 3, 1, 0), (77, .if_icmp .le 15, 3, 2)],
  [(80, .goto 9, 3, 2), (83, .iload 5, 2, 0), (85, .iload_n 3, 1, 0), (86, .if_icmp .ge 6, 3, 2), (89, .iload 5, 2, 0), (91, .istore_n 3, 1, 0), (92, .iinc 4 1, 3, 0), (95, .goto (-65), 3, 2)],
  [(98, .iload_n 3, 1, 0), (99, .ireturn, 1, 6)]]
theorem nn_d244 : ab_dtok prog_14_method_50_code nn_dt244 = true := dw_ok (by decide +kernel)
def nn_dt245 : ab_DT := [[(0, .aload_n 0, 1, 0), (1, .iconst 0, 1, 0), (2, .putfield 100, 3, 1), (5, .aload_n 0, 1, 0), (6, .iload_n 1, 1, 0), (7, .invokevirtual 267, 3, 3), (10, .ifCond .eq 16, 3, 2), (13, .iload_n 2, 1, 0), (14, .ifCond .lt 12, 3, 2)],
  [(17, .iload_n 2, 1, 0), (18, .aload_n 0, 1, 0), (19, .iload_n 1, 1, 0), (20, .invokevirtual 270, 3, 3), (23, .if_icmp .lt 5, 3, 2), (26, .iconst (-1), 1, 0), (27, .ireturn, 1, 6), (28, .iconst 0, 1, 0), (29, .istore_n 3, 1, 0), (30, .iconst 0, 1, 0), (31, .istore 4, 2, 0)],
  [(33, .iload 4, 2, 0), (35, .iload_n 2, 1, 0), (36, .if_icmp .ge 20, 3, 2), (39, .iload_n 3, 1, 0), (40, .aload_n 0, 1, 0), (41, .iload_n 1, 1, 0), (42, .iload 4, 2, 0), (44, .iconst 1, 1, 0), (45, .invokevirtual 273, 3, 3)],
  [(48, .iadd, 1, 0), (49, .istore_n 3, 1, 0), (50, .iinc 4 1, 3, 0), (53, .goto (-20), 3, 2), (56, .iload_n 3, 1, 0), (57, .ireturn, 1, 6)]]
theorem nn_d245 : ab_dtok prog_14_method_52_code nn_dt245 = true := dw_ok (by decide +kernel)
def nn_dt246 : ab_DT := [[(0, .aload_n 0, 1, 0), (1, .iconst 0, 1, 0), (2, .putfield 100, 3, 1), (5, .aload_n 0, 1, 0), (6, .iload_n 1, 1, 0), (7, .invokevirtual 264, 3, 3), (10, .ifCond .eq 16, 3, 2), (13, .aload_n 0, 1, 0), (14, .getfield 13, 3, 1)],
  [(17, .sipush 176, 3, 0), (20, .iload_n 1, 1, 0), (21, .iadd, 1, 0), (22, .iaload, 1, 1), (23, .goto 4, 3, 2), (26, .iconst (-1), 1, 0), (27, .ireturn, 1, 6)]]
theorem nn_d246 : ab_dtok prog_14_method_53_code nn_dt246 = true := dw_ok (by decide +kernel)
def nn_dt247 : ab_DT := [[(0, .iload_n 1, 1, 0), (1, .ifCond .lt 17, 3, 2), (4, .iload_n 1, 1, 0), (5, .aload_n 0, 1, 0), (6, .getfield 13, 3, 1), (9, .iconst 1, 1, 0), (10, .iaload, 1, 1), (11, .if_icmp .ge 7, 3, 2), (14, .iconst 1, 1, 0), (15, .goto 4, 3, 2)],
  [(18, .iconst 0, 1, 0), (19, .ireturn, 1, 6)]]
theorem nn_d247 : ab_dtok prog_14_method_43_code nn_dt247 = true := dw_ok (by decide +kernel)
def nn_dt248 : ab_DT := [[(0, .aload_n 0, 1, 0), (1, .iconst 0, 1, 0), (2, .putfield 100, 3, 1), (5, .aload_n 0, 1, 0), (6, .iload_n 1, 1, 0), (7, .invokevirtual 281, 3, 3), (10, .ifCond .eq 20, 3, 2), (13, .aload_n 0, 1, 0), (14, .iload_n 2, 1, 0), (15, .invokevirtual 267, 3, 3)],
  [(18, .ifCond .eq 12, 3, 2), (21, .aload_n 0, 1, 0), (22, .iload_n 1, 1, 0), (23, .iload_n 2, 1, 0), (24, .invokevirtual 284, 3, 3), (27, .goto 4, 3, 2), (30, .iconst (-1), 1, 0), (31, .ireturn, 1, 6)]]
theorem nn_d248 : ab_dtok prog_14_method_55_code nn_dt248 = true := dw_ok (by decide +kernel)
def nn_dt249 : ab_DT := [[(0, .iload_n 1, 1, 0), (1, .ifCond .lt 17, 3, 2), (4, .iload_n 1, 1, 0), (5, .aload_n 0, 1, 0), (6, .getfield 13, 3, 1), (9, .iconst 2, 1, 0), (10, .iaload, 1, 1), (11, .if_icmp .ge 7, 3, 2), (14, .iconst 1, 1, 0), (15, .goto 4, 3, 2)],
  [(18, .iconst 0, 1, 0), (19, .ireturn, 1, 6)]]
theorem nn_d249 : ab_dtok prog_14_method_44_code nn_dt249 = true := dw_ok (by decide +kernel)
def nn_dt250 : ab_DT := [[(0, .aload_n 0, 1, 0), (1, .getfield 13, 3, 1), (4, .sipush 182, 3, 0), (7, .bipush 9, 2, 0), (9, .iload_n 1, 1, 0), (10, .imul, 1, 0), (11, .iadd, 1, 0), (12, .iload_n 2, 1, 0), (13, .iadd, 1, 0), (14, .iaload, 1, 1), (15, .ireturn, 1, 6)]]
theorem nn_d250 : ab_dtok prog_14_method_54_code nn_dt250 = true := dw_ok (by decide +kernel)
def nn_dt251 : ab_DT := [[(0, .aload_n 0, 1, 0), (1, .iconst 0, 1, 0), (2, .putfield 100, 3, 1), (5, .aload_n 0, 1, 0), (6, .iload_n 1, 1, 0), (7, .invokevirtual 281, 3, 3), (10, .ifCond .eq 16, 3, 2), (13, .aload_n 0, 1, 0), (14, .getfield 13, 3, 1)],
  [(17, .sipush 227, 3, 0), (20, .iload_n 1, 1, 0), (21, .iadd, 1, 0), (22, .iaload, 1, 1), (23, .goto 4, 3, 2), (26, .iconst (-1), 1, 0), (27, .ireturn, 1, 6)]]
theorem nn_d251 : ab_dtok prog_14_method_56_code nn_dt251 = true := dw_ok (by decide +kernel)
def nn_dt252 : ab_DT := [[(0, .aload_n 0, 1, 0), (1, .iconst 0, 1, 0), (2, .putfield 100, 3, 1), (5, .aload_n 0, 1, 0), (6, .iload_n 1, 1, 0), (7, .invokevirtual 267, 3, 3), (10, .ifCond .eq 45, 3, 2), (13, .iload_n 2, 1, 0), (14, .iconst 1, 1, 0), (15, .bipush 9, 2, 0)],
  [(17, .invokestatic 171, 3, 3), (20, .ifCond .eq 35, 3, 2), (23, .iload_n 3, 1, 0), (24, .invokestatic 297, 3, 3), (27, .ifCond .eq 28, 3, 2), (30, .aload_n 0, 1, 0), (31, .iload 4, 2, 0)],
  [(33, .invokevirtual 300, 3, 3), (36, .ifCond .eq 19, 3, 2), (39, .aload_n 0, 1, 0), (40, .iload_n 1, 1, 0), (41, .iload_n 2, 1, 0), (42, .iload_n 3, 1, 0), (43, .aload_n 0, 1, 0), (44, .iload 4, 2, 0), (46, .invokevirtual 303, 3, 3)],
  [(49, .invokevirtual 306, 3, 3), (52, .goto 4, 3, 2), (55, .iconst (-1), 1, 0), (56, .ireturn, 1, 6)]]
theorem nn_d252 : ab_dtok prog_14_method_62_code nn_dt252 = true := dw_ok (by decide +kernel)
def nn_dt253 : ab_DT := [[(0, .iload_n 0, 1, 0), (1, .iconst 0, 1, 0), (2, .iconst 3, 1, 0), (3, .invokestatic 171, 3, 3), (6, .ireturn, 1, 6)]]
theorem nn_d253 : ab_dtok prog_14_method_61_code nn_dt253 = true := dw_ok (by decide +kernel)
def nn_dt254 : ab_DT := [[(0, .iload_n 1, 1, 0), (1, .iconst (-1), 1, 0), (2, .if_icmp .eq 11, 3, 2), (5, .aload_n 0, 1, 0), (6, .iload_n 1, 1, 0), (7, .invokevirtual 264, 3, 3), (10, .ifCond .eq 7, 3, 2), (13, .iconst 1, 1, 0), (14, .goto 4, 3, 2)],
  [(17, .iconst 0, 1, 0), (18, .ireturn, 1, 6)]]
theorem nn_d254 : ab_dtok prog_14_method_48_code nn_dt254 = true := dw_ok (by decide +kernel)
def nn_dt255 : ab_DT := [[(0, .iload_n 1, 1, 0), (1, .iconst (-1), 1, 0), (2, .if_icmp .ne 14, 3, 2), (5, .iconst 1, 1, 0), (6, .aload_n 0, 1, 0), (7, .invokevirtual 261, 3, 3), (10, .ishl, 1, 0), (11, .iconst 1, 1, 0), (12, .isub, 1, 0), (13, .goto 13, 3, 2)],
  [(16, .aload_n 0, 1, 0), (17, .getfield 13, 3, 1), (20, .sipush 176, 3, 0), (23, .iload_n 1, 1, 0), (24, .iadd, 1, 0), (25, .iaload, 1, 1), (26, .ireturn, 1, 6)]]
theorem nn_d255 : ab_dtok prog_14_method_47_code nn_dt255 = true := dw_ok (by decide +kernel)
def nn_dt256 : ab_DT := [[(0, .iconst 0, 1, 0), (1, .istore 5, 2, 0), (3, .iconst 0, 1, 0), (4, .istore 6, 2, 0), (6, .iload 6, 2, 0), (8, .aload_n 0, 1, 0), (9, .invokevirtual 261, 3, 3), (12, .if_icmp .ge 40, 3, 2), (15, .iload 4, 2, 0)],
  [(17, .iload 6, 2, 0), (19, .invokestatic 216, 3, 3), (22, .ifCond .eq 24, 3, 2), (25, .aload_n 0, 1, 0), (26, .iload_n 1, 1, 0), (27, .iload 6, 2, 0), (29, .iload_n 2, 1, 0), (30, .iload_n 3, 1, 0), (31, .invokevirtual 294, 3, 3)],
  [(34, .ifCond .eq 12, 3, 2), (37, .iload 5, 2, 0), (39, .iconst 1, 1, 0), (40, .iload 6, 2, 0), (42, .ishl, 1, 0), (43, .ior, 1, 0), (44, .istore 5, 2, 0), (46, .iinc 6 1, 3, 0)],
  [(49, .goto (-43), 3, 2), (52, .iload 5, 2, 0), (54, .ireturn, 1, 6)]]
theorem nn_d256 : ab_dtok prog_14_method_60_code nn_dt256 = true := dw_ok (by decide +kernel)
def nn_dt257 : ab_DT := [[(0, .aload_n 0, 1, 0), (1, .iload_n 1, 1, 0), (2, .iload_n 2, 1, 0), (3, .iload 4, 2, 0), (5, .invokevirtual 291, 3, 3), (8, .iload_n 3, 1, 0), (9, .if_icmp .lt 7, 3, 2), (12, .iconst 1, 1, 0), (13, .goto 4, 3, 2)],
  [(16, .iconst 0, 1, 0), (17, .ireturn, 1, 6)]]
theorem nn_d257 : ab_dtok prog_14_method_59_code nn_dt257 = true := dw_ok (by decide +kernel)
def nn_dt258 : ab_DT := [[(0, .iconst 0, 1, 0), (1, .istore 4, 2, 0), (3, .iload 4, 2, 0), (5, .bipush 9, 2, 0), (7, .if_icmp .ge 21, 3, 2), (10, .aload_n 0, 1, 0), (11, .iload_n 1, 1, 0), (12, .iload_n 2, 1, 0), (13, .iload 4, 2, 0), (15, .iload_n 3, 1, 0)],
  [(16, .invokevirtual 287, 3, 3), (19, .ifCond .eq 9, 3, 2), (22, .iinc 4 1, 3, 0), (25, .goto (-22), 3, 2), (28, .iload 4, 2, 0), (30, .ireturn, 1, 6)]]
theorem nn_d258 : ab_dtok prog_14_method_58_code nn_dt258 = true := dw_ok (by decide +kernel)
def nn_dt259 : ab_DT := [[(0, .iload_n 3, 1, 0), (1, .aload_n 0, 1, 0), (2, .iload_n 1, 1, 0), (3, .invokevirtual 270, 3, 3), (6, .if_icmp .ge 12, 3, 2), (9, .iload_n 3, 1, 0), (10, .aload_n 0, 1, 0), (11, .iload_n 2, 1, 0), (12, .invokevirtual 270, 3, 3), (15, .if_icmp .lt 27, 3, 2)],
  [(18, .iload_n 3, 1, 0), (19, .aload_n 0, 1, 0), (20, .iload_n 1, 1, 0), (21, .invokevirtual 270, 3, 3), (24, .if_icmp .lt 16, 3, 2), (27, .iload_n 3, 1, 0), (28, .aload_n 0, 1, 0), (29, .iload_n 2, 1, 0), (30, .invokevirtual 270, 3, 3)],
  [(33, .if_icmp .lt 7, 3, 2), (36, .iconst 1, 1, 0), (37, .goto 4, 3, 2), (40, .iconst 0, 1, 0), (41, .ireturn, 1, 6), (42, .aload_n 0, 1, 0), (43, .iload_n 1, 1, 0), (44, .iload_n 3, 1, 0), (45, .iconst 0, 1, 0), (46, .invokevirtual 273, 3, 3)],
  [(49, .aload_n 0, 1, 0), (50, .iload_n 2, 1, 0), (51, .iload_n 3, 1, 0), (52, .iconst 0, 1, 0), (53, .invokevirtual 273, 3, 3), (56, .if_icmp .ne 7, 3, 2), (59, .iconst 1, 1, 0), (60, .goto 4, 3, 2), (63, .iconst 0, 1, 0)],
  [(64, .istore 5, 2, 0), (66, .aload_n 0, 1, 0), (67, .iload_n 1, 1, 0), (68, .iload_n 3, 1, 0), (69, .iconst 1, 1, 0), (70, .invokevirtual 273, 3, 3), (73, .aload_n 0, 1, 0), (74, .iload_n 2, 1, 0), (75, .iload_n 3, 1, 0), (76, .iconst 1, 1, 0), (77, .invokevirtual 273, 3, 3)],
  [(80, .if_icmp .ne 7, 3, 2), (83, .iconst 1, 1, 0), (84, .goto 4, 3, 2), (87, .iconst 0, 1, 0), (88, .istore 6, 2, 0), (90, .iload 4, 2, 0), (92, .iconst 3, 1, 0), (93, .if_icmp .ne 42, 3, 2)],
  [(96, .aload_n 0, 1, 0), (97, .iload_n 1, 1, 0), (98, .iload_n 3, 1, 0), (99, .iconst 0, 1, 0), (100, .invokevirtual 273, 3, 3), (103, .aload_n 0, 1, 0), (104, .iload_n 1, 1, 0), (105, .iconst 0, 1, 0), (106, .iconst 0, 1, 0), (107, .invokevirtual 273, 3, 3), (110, .isub, 1, 0), (111, .aload_n 0, 1, 0)],
  [(112, .iload_n 2, 1, 0), (113, .iload_n 3, 1, 0), (114, .iconst 0, 1, 0), (115, .invokevirtual 273, 3, 3), (118, .aload_n 0, 1, 0), (119, .iload_n 2, 1, 0), (120, .iconst 0, 1, 0), (121, .iconst 0, 1, 0), (122, .invokevirtual 273, 3, 3), (125, .isub, 1, 0), (126, .if_icmp .ne 7, 3, 2)],
  [(129, .iconst 1, 1, 0), (130, .goto 4, 3, 2), (133, .iconst 0, 1, 0), (134, .ireturn, 1, 6), (135, .iload 4, 2, 0), (137, .ifCond .ne 21, 3, 2), (140, .iload 5, 2, 0), (142, .ifCond .eq 12, 3, 2)],
  [(145, .iload 6, 2, 0), (147, .ifCond .eq 7, 3, 2), (150, .iconst 1, 1, 0), (151, .goto 20, 3, 2), (154, .iconst 0, 1, 0), (155, .goto 16, 3, 2), (158, .iload 4, 2, 0)],
  [(160, .iconst 1, 1, 0), (161, .if_icmp .ne 8, 3, 2), (164, .iload 5, 2, 0), (166, .goto 5, 3, 2), (169, .iload 6, 2, 0), (171, .ireturn, 1, 6)]]
theorem nn_d259 : ab_dtok prog_14_method_57_code nn_dt259 = true := dw_ok (by decide +kernel)
def nn_dt260 : ab_DT := [[(0, .aload_n 0, 1, 0), (1, .iconst 0, 1, 0), (2, .putfield 100, 3, 1), (5, .iload_n 1, 1, 0), (6, .iconst 1, 1, 0), (7, .bipush 9, 2, 0), (9, .invokestatic 171, 3, 3), (12, .ifCond .eq 18, 3, 2), (15, .iload_n 2, 1, 0)],
  [(16, .invokestatic 297, 3, 3), (19, .ifCond .eq 11, 3, 2), (22, .aload_n 0, 1, 0), (23, .iload_n 3, 1, 0), (24, .invokevirtual 300, 3, 3), (27, .ifCond .ne 5, 3, 2), (30, .iconst (-1), 1, 0), (31, .ireturn, 1, 6)],
  [(32, .iconst 0, 1, 0), (33, .istore 4, 2, 0), (35, .iconst 0, 1, 0), (36, .istore 5, 2, 0), (38, .iload 5, 2, 0), (40, .aload_n 0, 1, 0), (41, .invokevirtual 261, 3, 3), (44, .if_icmp .ge 48, 3, 2), (47, .aload_n 0, 1, 0)],
  [(48, .iload_n 3, 1, 0), (49, .invokevirtual 303, 3, 3), (52, .iload 5, 2, 0), (54, .invokestatic 216, 3, 3), (57, .ifCond .eq 29, 3, 2), (60, .aload_n 0, 1, 0), (61, .iload 5, 2, 0), (63, .iload_n 1, 1, 0)],
  [(64, .iload_n 2, 1, 0), (65, .aload_n 0, 1, 0), (66, .iload_n 3, 1, 0), (67, .invokevirtual 303, 3, 3), (70, .invokevirtual 306, 3, 3), (73, .iconst 1, 1, 0), (74, .iload 5, 2, 0), (76, .ishl, 1, 0), (77, .iconst 1, 1, 0), (78, .isub, 1, 0), (79, .iand, 1, 0)],
  [(80, .ifCond .ne 6, 3, 2), (83, .iinc 4 1, 3, 0), (86, .iinc 5 1, 3, 0), (89, .goto (-51), 3, 2), (92, .iload 4, 2, 0), (94, .ireturn, 1, 6)]]
theorem nn_d260 : ab_dtok prog_14_method_63_code nn_dt260 = true := dw_ok (by decide +kernel)
def nn_dt261 : ab_DT := [[(0, .aload_n 0, 1, 0), (1, .iconst 0, 1, 0), (2, .putfield 100, 3, 1), (5, .aload_n 0, 1, 0), (6, .iload_n 1, 1, 0), (7, .invokevirtual 267, 3, 3), (10, .ifCond .eq 44, 3, 2), (13, .iload_n 2, 1, 0), (14, .invokestatic 297, 3, 3)],
  [(17, .ifCond .eq 37, 3, 2), (20, .aload_n 0, 1, 0), (21, .iload_n 3, 1, 0), (22, .invokevirtual 300, 3, 3), (25, .ifCond .eq 29, 3, 2), (28, .aload_n 0, 1, 0), (29, .iload_n 3, 1, 0), (30, .invokevirtual 303, 3, 3)],
  [(33, .iload_n 1, 1, 0), (34, .invokestatic 216, 3, 3), (37, .ifCond .eq 17, 3, 2), (40, .aload_n 0, 1, 0), (41, .iload_n 1, 1, 0), (42, .iload_n 2, 1, 0), (43, .aload_n 0, 1, 0), (44, .iload_n 3, 1, 0), (45, .invokevirtual 303, 3, 3)],
  [(48, .invokevirtual 310, 3, 3), (51, .goto 4, 3, 2), (54, .iconst (-1), 1, 0), (55, .ireturn, 1, 6)]]
theorem nn_d261 : ab_dtok prog_14_method_65_code nn_dt261 = true := dw_ok (by decide +kernel)
def nn_dt262 : ab_DT := [[(0, .iconst 0, 1, 0), (1, .istore 4, 2, 0), (3, .iconst 0, 1, 0), (4, .istore 5, 2, 0), (6, .iload 5, 2, 0), (8, .aload_n 0, 1, 0), (9, .invokevirtual 261, 3, 3), (12, .if_icmp .ge 51, 3, 2), (15, .iload 5, 2, 0)],
  [(17, .iload_n 1, 1, 0), (18, .if_icmp .eq 39, 3, 2), (21, .iload_n 3, 1, 0), (22, .iload 5, 2, 0), (24, .invokestatic 216, 3, 3), (27, .ifCond .eq 30, 3, 2), (30, .aload_n 0, 1, 0), (31, .iload_n 1, 1, 0)],
  [(32, .iload 5, 2, 0), (34, .iload_n 2, 1, 0), (35, .invokevirtual 291, 3, 3), (38, .iconst 1, 1, 0), (39, .iadd, 1, 0), (40, .iload 4, 2, 0), (42, .if_icmp .le 15, 3, 2), (45, .aload_n 0, 1, 0), (46, .iload_n 1, 1, 0), (47, .iload 5, 2, 0)],
  [(49, .iload_n 2, 1, 0), (50, .invokevirtual 291, 3, 3), (53, .iconst 1, 1, 0), (54, .iadd, 1, 0), (55, .istore 4, 2, 0), (57, .iinc 5 1, 3, 0), (60, .goto (-54), 3, 2), (63, .iload 4, 2, 0)],
  [(65, .bipush 9, 2, 0), (67, .if_icmp .le 7, 3, 2), (70, .iconst (-1), 1, 0), (71, .goto 14, 3, 2), (74, .iload 4, 2, 0), (76, .ifCond .ne 7, 3, 2), (79, .iconst 1, 1, 0)],
  [(80, .goto 5, 3, 2), (83, .iload 4, 2, 0), (85, .ireturn, 1, 6)]]
theorem nn_d262 : ab_dtok prog_14_method_64_code nn_dt262 = true := dw_ok (by decide +kernel)
def nn_dt263 : ab_DT := [[(0, .aload_n 0, 1, 0), (1, .iconst 0, 1, 0), (2, .putfield 100, 3, 1), (5, .iload_n 1, 1, 0), (6, .invokestatic 297, 3, 3), (9, .ifCond .eq 11, 3, 2), (12, .aload_n 0, 1, 0), (13, .iload_n 2, 1, 0), (14, .invokevirtual 264, 3, 3)],
  [(17, .ifCond .ne 5, 3, 2), (20, .iconst (-1), 1, 0), (21, .ireturn, 1, 6), (22, .iconst (-1), 1, 0), (23, .istore_n 3, 1, 0), (24, .iconst 0, 1, 0), (25, .istore 4, 2, 0), (27, .iconst 0, 1, 0), (28, .istore 5, 2, 0), (30, .iload 5, 2, 0)],
  [(32, .aload_n 0, 1, 0), (33, .invokevirtual 261, 3, 3), (36, .if_icmp .ge 66, 3, 2), (39, .aload_n 0, 1, 0), (40, .iload_n 2, 1, 0), (41, .invokevirtual 303, 3, 3), (44, .iload 5, 2, 0), (46, .invokestatic 216, 3, 3)],
  [(49, .ifCond .ne 6, 3, 2), (52, .goto 44, 3, 2), (55, .aload_n 0, 1, 0), (56, .iload 5, 2, 0), (58, .iload_n 1, 1, 0), (59, .aload_n 0, 1, 0), (60, .iload_n 2, 1, 0), (61, .invokevirtual 303, 3, 3)],
  [(64, .invokevirtual 310, 3, 3), (67, .istore 6, 2, 0), (69, .iload 6, 2, 0), (71, .iconst (-1), 1, 0), (72, .if_icmp .ne 7, 3, 2), (75, .bipush 10, 2, 0), (77, .istore 6, 2, 0), (79, .iload 6, 2, 0)],
  [(81, .iload 4, 2, 0), (83, .if_icmp .gt 6, 3, 2), (86, .goto 10, 3, 2), (89, .iload 5, 2, 0), (91, .istore_n 3, 1, 0), (92, .iload 6, 2, 0), (94, .istore 4, 2, 0)],
  [(96, .iinc 5 1, 3, 0), (99, .goto (-69), 3, 2), (102, .iload_n 3, 1, 0), (103, .ireturn, 1, 6)]]
theorem nn_d263 : ab_dtok prog_14_method_66_code nn_dt263 = true := dw_ok (by decide +kernel)
def nn_dt264 : ab_DT := [[(0, .aload_n 0, 1, 0), (1, .iconst 0, 1, 0), (2, .putfield 100, 3, 1), (5, .iload_n 1, 1, 0), (6, .iconst 1, 1, 0), (7, .bipush 9, 2, 0), (9, .invokestatic 171, 3, 3), (12, .ifCond .eq 18, 3, 2), (15, .iload_n 2, 1, 0)],
  [(16, .invokestatic 297, 3, 3), (19, .ifCond .eq 11, 3, 2), (22, .aload_n 0, 1, 0), (23, .iload_n 3, 1, 0), (24, .invokevirtual 300, 3, 3), (27, .ifCond .ne 5, 3, 2), (30, .iconst (-1), 1, 0), (31, .ireturn, 1, 6)],
  [(32, .iconst 0, 1, 0), (33, .istore 5, 2, 0), (35, .iconst 0, 1, 0), (36, .istore 6, 2, 0), (38, .iload 6, 2, 0), (40, .aload_n 0, 1, 0), (41, .invokevirtual 261, 3, 3), (44, .if_icmp .ge 91, 3, 2), (47, .iload 6, 2, 0)],
  [(49, .iconst 1, 1, 0), (50, .iadd, 1, 0), (51, .istore 7, 2, 0), (53, .iload 7, 2, 0), (55, .aload_n 0, 1, 0), (56, .invokevirtual 261, 3, 3), (59, .if_icmp .ge 70, 3, 2), (62, .aload_n 0, 1, 0), (63, .iload_n 3, 1, 0)],
  [(64, .invokevirtual 303, 3, 3), (67, .iload 6, 2, 0), (69, .invokestatic 216, 3, 3), (72, .ifCond .eq 51, 3, 2), (75, .aload_n 0, 1, 0), (76, .iload_n 3, 1, 0), (77, .invokevirtual 303, 3, 3)],
  [(80, .iload 7, 2, 0), (82, .invokestatic 216, 3, 3), (85, .ifCond .eq 38, 3, 2), (88, .aload_n 0, 1, 0), (89, .iload 6, 2, 0), (91, .iload 7, 2, 0), (93, .iload_n 1, 1, 0), (94, .iload_n 2, 1, 0), (95, .invokevirtual 294, 3, 3)],
  [(98, .ifCond .ne 6, 3, 2), (101, .goto 22, 3, 2), (104, .iload 5, 2, 0), (106, .iload 4, 2, 0), (108, .if_icmp .ne 12, 3, 2), (111, .bipush 10, 2, 0)],
  [(113, .iload 6, 2, 0), (115, .imul, 1, 0), (116, .iload 7, 2, 0), (118, .iadd, 1, 0), (119, .ireturn, 1, 6), (120, .iinc 5 1, 3, 0), (123, .iinc 7 1, 3, 0), (126, .goto (-73), 3, 2)],
  [(129, .iinc 6 1, 3, 0), (132, .goto (-94), 3, 2), (135, .iload 4, 2, 0), (137, .iconst (-1), 1, 0), (138, .if_icmp .ne 8, 3, 2), (141, .iload 5, 2, 0), (143, .goto 4, 3, 2)],
  [(146, .iconst (-1), 1, 0), (147, .ireturn, 1, 6)]]
theorem nn_d264 : ab_dtok prog_14_method_67_code nn_dt264 = true := dw_ok (by decide +kernel)
def nn_dt265 : ab_DT := [[(0, .aload_n 0, 1, 0), (1, .iconst 0, 1, 0), (2, .putfield 100, 3, 1), (5, .aload_n 0, 1, 0), (6, .iload_n 1, 1, 0), (7, .invokevirtual 267, 3, 3), (10, .ifCond .eq 28, 3, 2), (13, .aload_n 0, 1, 0), (14, .iload_n 2, 1, 0), (15, .invokevirtual 267, 3, 3)],
  [(18, .ifCond .eq 20, 3, 2), (21, .iload_n 3, 1, 0), (22, .invokestatic 297, 3, 3), (25, .ifCond .eq 13, 3, 2), (28, .aload_n 0, 1, 0), (29, .iload_n 1, 1, 0), (30, .iload_n 2, 1, 0), (31, .iload_n 3, 1, 0)],
  [(32, .invokevirtual 291, 3, 3), (35, .goto 4, 3, 2), (38, .iconst (-1), 1, 0), (39, .ireturn, 1, 6)]]
theorem nn_d265 : ab_dtok prog_14_method_68_code nn_dt265 = true := dw_ok (by decide +kernel)
def nn_dt266 : ab_DT := [[(0, .aload_n 0, 1, 0), (1, .iconst 0, 1, 0), (2, .putfield 100, 3, 1), (5, .aload_n 0, 1, 0), (6, .iload_n 1, 1, 0), (7, .invokevirtual 267, 3, 3), (10, .ifCond .eq 20, 3, 2), (13, .aload_n 0, 1, 0), (14, .iload_n 2, 1, 0), (15, .invokevirtual 267, 3, 3)],
  [(18, .ifCond .eq 12, 3, 2), (21, .aload_n 0, 1, 0), (22, .iload_n 1, 1, 0), (23, .iload_n 2, 1, 0), (24, .invokevirtual 319, 3, 3), (27, .goto 4, 3, 2), (30, .iconst (-1), 1, 0), (31, .ireturn, 1, 6)]]
theorem nn_d266 : ab_dtok prog_14_method_71_code nn_dt266 = true := dw_ok (by decide +kernel)
def nn_dt267 : ab_DT := [[(0, .iconst 0, 1, 0), (1, .istore_n 3, 1, 0), (2, .iload_n 3, 1, 0), (3, .aload_n 0, 1, 0), (4, .iload_n 2, 1, 0), (5, .invokevirtual 270, 3, 3), (8, .if_icmp .gt 16, 3, 2), (11, .aload_n 0, 1, 0), (12, .getfield 42, 3, 1), (15, .iload_n 3, 1, 0)],
  [(16, .iload_n 3, 1, 0), (17, .iastore, 1, 1), (18, .iinc 3 1, 3, 0), (21, .goto (-19), 3, 2), (24, .iconst 1, 1, 0), (25, .istore_n 3, 1, 0), (26, .iload_n 3, 1, 0), (27, .aload_n 0, 1, 0), (28, .iload_n 1, 1, 0), (29, .invokevirtual 270, 3, 3)],
  [(32, .if_icmp .gt 140, 3, 2), (35, .aload_n 0, 1, 0), (36, .getfield 45, 3, 1), (39, .iconst 0, 1, 0), (40, .iload_n 3, 1, 0), (41, .iastore, 1, 1), (42, .iconst 1, 1, 0), (43, .istore 4, 2, 0), (45, .iload 4, 2, 0), (47, .aload_n 0, 1, 0)],
  [(48, .iload_n 2, 1, 0), (49, .invokevirtual 270, 3, 3), (52, .if_icmp .gt 81, 3, 2), (55, .aload_n 0, 1, 0), (56, .getfield 42, 3, 1), (59, .iload 4, 2, 0), (61, .iconst 1, 1, 0), (62, .isub, 1, 0), (63, .iaload, 1, 1)],
  [(64, .aload_n 0, 1, 0), (65, .iload_n 1, 1, 0), (66, .iload_n 3, 1, 0), (67, .iconst 1, 1, 0), (68, .isub, 1, 0), (69, .iload_n 2, 1, 0), (70, .iload 4, 2, 0), (72, .iconst 1, 1, 0), (73, .isub, 1, 0), (74, .invokevirtual 313, 3, 3), (77, .ifCond .eq 7, 3, 2)],
  [(80, .iconst 0, 1, 0), (81, .goto 4, 3, 2), (84, .iconst 1, 1, 0), (85, .iadd, 1, 0), (86, .istore 5, 2, 0), (88, .iload 5, 2, 0), (90, .aload_n 0, 1, 0), (91, .getfield 42, 3, 1), (94, .iload 4, 2, 0)],
  [(96, .iaload, 1, 1), (97, .iconst 1, 1, 0), (98, .iadd, 1, 0), (99, .invokestatic 316, 3, 3), (102, .istore 5, 2, 0), (104, .aload_n 0, 1, 0), (105, .getfield 45, 3, 1), (108, .iload 4, 2, 0), (110, .iload 5, 2, 0)],
  [(112, .aload_n 0, 1, 0), (113, .getfield 45, 3, 1), (116, .iload 4, 2, 0), (118, .iconst 1, 1, 0), (119, .isub, 1, 0), (120, .iaload, 1, 1), (121, .iconst 1, 1, 0), (122, .iadd, 1, 0), (123, .invokestatic 316, 3, 3), (126, .iastore, 1, 1), (127, .iinc 4 1, 3, 0)],
  [(130, .goto (-85), 3, 2), (133, .iconst 0, 1, 0), (134, .istore 4, 2, 0), (136, .iload 4, 2, 0), (138, .aload_n 0, 1, 0), (139, .iload_n 2, 1, 0), (140, .invokevirtual 270, 3, 3), (143, .if_icmp .gt 23, 3, 2)],
  [(146, .aload_n 0, 1, 0), (147, .getfield 42, 3, 1), (150, .iload 4, 2, 0), (152, .aload_n 0, 1, 0), (153, .getfield 45, 3, 1), (156, .iload 4, 2, 0), (158, .iaload, 1, 1), (159, .iastore, 1, 1)],
  [(160, .iinc 4 1, 3, 0), (163, .goto (-27), 3, 2), (166, .iinc 3 1, 3, 0), (169, .goto (-143), 3, 2), (172, .aload_n 0, 1, 0), (173, .getfield 42, 3, 1)],
  [(176, .aload_n 0, 1, 0), (177, .iload_n 2, 1, 0), (178, .invokevirtual 270, 3, 3), (181, .iaload, 1, 1), (182, .ireturn, 1, 6)]]
theorem nn_d267 : ab_dtok prog_14_method_69_code nn_dt267 = true := dw_ok (by decide +kernel)
def nn_dt268 : ab_DT := [[(0, .aload_n 0, 1, 0), (1, .iload_n 1, 1, 0), (2, .iload_n 2, 1, 0), (3, .iconst 0, 1, 0), (4, .invokevirtual 273, 3, 3), (7, .aload_n 0, 1, 0), (8, .iload_n 3, 1, 0), (9, .iload 4, 2, 0), (11, .iconst 0, 1, 0), (12, .invokevirtual 273, 3, 3), (15, .if_icmp .ne 25, 3, 2)],
  [(18, .aload_n 0, 1, 0), (19, .iload_n 1, 1, 0), (20, .iload_n 2, 1, 0), (21, .iconst 1, 1, 0), (22, .invokevirtual 273, 3, 3), (25, .aload_n 0, 1, 0), (26, .iload_n 3, 1, 0), (27, .iload 4, 2, 0), (29, .iconst 1, 1, 0), (30, .invokevirtual 273, 3, 3)],
  [(33, .if_icmp .ne 7, 3, 2), (36, .iconst 1, 1, 0), (37, .goto 4, 3, 2), (40, .iconst 0, 1, 0), (41, .ireturn, 1, 6)]]
theorem nn_d268 : ab_dtok prog_14_method_70_code nn_dt268 = true := dw_ok (by decide +kernel)
def nn_dt269 : ab_DT := [[(0, .iload_n 0, 1, 0), (1, .iload_n 1, 1, 0), (2, .if_icmp .ge 7, 3, 2), (5, .iload_n 0, 1, 0), (6, .goto 4, 3, 2), (9, .iload_n 1, 1, 0), (10, .ireturn, 1, 6)]]
theorem nn_d269 : ab_dtok prog_14_method_11_code nn_dt269 = true := dw_ok (by decide +kernel)
def nn_dt270 : ab_DT := [[(0, .aload_n 0, 1, 0), (1, .iconst 0, 1, 0), (2, .putfield 100, 3, 1), (5, .aload_n 0, 1, 0), (6, .iload_n 1, 1, 0), (7, .invokevirtual 267, 3, 3), (10, .ifCond .eq 11, 3, 2), (13, .aload_n 0, 1, 0), (14, .iload_n 2, 1, 0), (15, .invokevirtual 300, 3, 3)],
  [(18, .ifCond .ne 5, 3, 2), (21, .iconst (-1), 1, 0), (22, .ireturn, 1, 6), (23, .iconst (-1), 1, 0), (24, .istore_n 3, 1, 0), (25, .iconst 0, 1, 0), (26, .istore 4, 2, 0), (28, .iload 4, 2, 0), (30, .aload_n 0, 1, 0), (31, .invokevirtual 261, 3, 3)],
  [(34, .if_icmp .ge 52, 3, 2), (37, .iload 4, 2, 0), (39, .iload_n 1, 1, 0), (40, .if_icmp .eq 40, 3, 2), (43, .aload_n 0, 1, 0), (44, .iload_n 2, 1, 0), (45, .invokevirtual 303, 3, 3)],
  [(48, .iload 4, 2, 0), (50, .invokestatic 216, 3, 3), (53, .ifCond .eq 27, 3, 2), (56, .iload_n 3, 1, 0), (57, .iconst (-1), 1, 0), (58, .if_icmp .eq 19, 3, 2), (61, .aload_n 0, 1, 0), (62, .iload_n 1, 1, 0), (63, .iload 4, 2, 0)],
  [(65, .invokevirtual 319, 3, 3), (68, .aload_n 0, 1, 0), (69, .iload_n 1, 1, 0), (70, .iload_n 3, 1, 0), (71, .invokevirtual 319, 3, 3), (74, .if_icmp .ge 6, 3, 2), (77, .iload 4, 2, 0), (79, .istore_n 3, 1, 0)],
  [(80, .iinc 4 1, 3, 0), (83, .goto (-55), 3, 2), (86, .iload_n 3, 1, 0), (87, .ireturn, 1, 6)]]
theorem nn_d270 : ab_dtok prog_14_method_72_code nn_dt270 = true := dw_ok (by decide +kernel)
def nn_dt271 : ab_DT := [[(0, .aload_n 0, 1, 0), (1, .iconst 0, 1, 0), (2, .putfield 100, 3, 1), (5, .aload_n 0, 1, 0), (6, .iload_n 1, 1, 0), (7, .invokevirtual 267, 3, 3), (10, .ifCond .eq 12, 3, 2), (13, .iload_n 2, 1, 0), (14, .iconst 0, 1, 0), (15, .iconst 3, 1, 0)],
  [(16, .invokestatic 171, 3, 3), (19, .ifCond .ne 5, 3, 2), (22, .iconst (-1), 1, 0), (23, .ireturn, 1, 6), (24, .iconst 0, 1, 0), (25, .istore_n 3, 1, 0), (26, .iload_n 3, 1, 0), (27, .aload_n 0, 1, 0), (28, .invokevirtual 261, 3, 3), (31, .if_icmp .ge 79, 3, 2)],
  [(34, .iconst 0, 1, 0), (35, .istore 4, 2, 0), (37, .iconst 0, 1, 0), (38, .istore 5, 2, 0), (40, .iload 5, 2, 0), (42, .aload_n 0, 1, 0), (43, .invokevirtual 261, 3, 3), (46, .if_icmp .ge 50, 3, 2)],
  [(49, .aload_n 0, 1, 0), (50, .iload 5, 2, 0), (52, .iload_n 2, 1, 0), (53, .invokevirtual 277, 3, 3), (56, .aload_n 0, 1, 0), (57, .iload_n 3, 1, 0), (58, .iload_n 2, 1, 0), (59, .invokevirtual 277, 3, 3), (62, .if_icmp .lt 25, 3, 2)],
  [(65, .aload_n 0, 1, 0), (66, .iload 5, 2, 0), (68, .iload_n 2, 1, 0), (69, .invokevirtual 277, 3, 3), (72, .aload_n 0, 1, 0), (73, .iload_n 3, 1, 0), (74, .iload_n 2, 1, 0), (75, .invokevirtual 277, 3, 3), (78, .if_icmp .ne 12, 3, 2)],
  [(81, .iload 5, 2, 0), (83, .iload_n 3, 1, 0), (84, .if_icmp .ge 6, 3, 2), (87, .iinc 4 1, 3, 0), (90, .iinc 5 1, 3, 0), (93, .goto (-53), 3, 2)],
  [(96, .iload 4, 2, 0), (98, .iload_n 1, 1, 0), (99, .if_icmp .ne 5, 3, 2), (102, .iload_n 3, 1, 0), (103, .ireturn, 1, 6), (104, .iinc 3 1, 3, 0), (107, .goto (-81), 3, 2), (110, .iconst (-1), 1, 0), (111, .ireturn, 1, 6)]]
theorem nn_d271 : ab_dtok prog_14_method_73_code nn_dt271 = true := dw_ok (by decide +kernel)
def nn_dt272 : ab_DT := [[(0, .aload_n 0, 1, 0), (1, .iconst 0, 1, 0), (2, .putfield 100, 3, 1), (5, .iconst (-1), 1, 0), (6, .istore_n 1, 1, 0), (7, .iconst 0, 1, 0), (8, .istore_n 2, 1, 0), (9, .iconst 0, 1, 0), (10, .istore_n 3, 1, 0), (11, .iload_n 3, 1, 0), (12, .bipush 25, 2, 0), (14, .if_icmp .ge 80, 3, 2)],
  [(17, .iconst 0, 1, 0), (18, .istore 4, 2, 0), (20, .iconst 0, 1, 0), (21, .istore 5, 2, 0), (23, .iload 5, 2, 0), (25, .aload_n 0, 1, 0), (26, .invokevirtual 261, 3, 3), (29, .if_icmp .ge 45, 3, 2)],
  [(32, .iconst 0, 1, 0), (33, .istore 6, 2, 0), (35, .iload 6, 2, 0), (37, .aload_n 0, 1, 0), (38, .iload 5, 2, 0), (40, .invokevirtual 270, 3, 3), (43, .if_icmp .ge 25, 3, 2), (46, .aload_n 0, 1, 0), (47, .iload 5, 2, 0)],
  [(49, .iload 6, 2, 0), (51, .iconst 0, 1, 0), (52, .invokevirtual 273, 3, 3), (55, .iload_n 3, 1, 0), (56, .if_icmp .ne 6, 3, 2), (59, .iinc 4 1, 3, 0), (62, .iinc 6 1, 3, 0)],
  [(65, .goto (-30), 3, 2), (68, .iinc 5 1, 3, 0), (71, .goto (-48), 3, 2), (74, .iload 4, 2, 0), (76, .iload_n 2, 1, 0), (77, .if_icmp .gt 6, 3, 2)],
  [(80, .goto 8, 3, 2), (83, .iload_n 3, 1, 0), (84, .istore_n 1, 1, 0), (85, .iload 4, 2, 0), (87, .istore_n 2, 1, 0), (88, .iinc 3 1, 3, 0), (91, .goto (-80), 3, 2), (94, .iload_n 1, 1, 0), (95, .ireturn, 1, 6)]]
theorem nn_d272 : ab_dtok prog_14_method_74_code nn_dt272 = true := dw_ok (by decide +kernel)
def nn_dt273 : ab_DT := [[(0, .aload_n 0, 1, 0), (1, .iconst 0, 1, 0), (2, .putfield 100, 3, 1), (5, .iconst (-1), 1, 0), (6, .istore_n 1, 1, 0), (7, .iconst 0, 1, 0), (8, .istore_n 2, 1, 0), (9, .iload_n 2, 1, 0), (10, .iconst 1, 1, 0), (11, .aload_n 0, 1, 0), (12, .getfield 13, 3, 1), (15, .iconst 1, 1, 0)],
  [(16, .iaload, 1, 1), (17, .ishl, 1, 0), (18, .if_icmp .ge 81, 3, 2), (21, .iconst 0, 1, 0), (22, .istore_n 3, 1, 0), (23, .iconst 0, 1, 0), (24, .istore 4, 2, 0), (26, .iload 4, 2, 0), (28, .aload_n 0, 1, 0), (29, .getfield 13, 3, 1)],
  [(32, .iconst 1, 1, 0), (33, .iaload, 1, 1), (34, .if_icmp .ge 32, 3, 2), (37, .iload_n 2, 1, 0), (38, .iload 4, 2, 0), (40, .invokestatic 216, 3, 3), (43, .ifCond .eq 17, 3, 2), (46, .iload_n 3, 1, 0), (47, .aload_n 0, 1, 0)],
  [(48, .getfield 13, 3, 1), (51, .sipush 176, 3, 0), (54, .iload 4, 2, 0), (56, .iadd, 1, 0), (57, .iaload, 1, 1), (58, .ior, 1, 0), (59, .istore_n 3, 1, 0), (60, .iinc 4 1, 3, 0), (63, .goto (-37), 3, 2)],
  [(66, .iload_n 3, 1, 0), (67, .aload_n 0, 1, 0), (68, .iconst (-1), 1, 0), (69, .invokevirtual 303, 3, 3), (72, .if_icmp .ne 21, 3, 2), (75, .iload_n 1, 1, 0), (76, .iconst (-1), 1, 0), (77, .if_icmp .eq 14, 3, 2)],
  [(80, .iload_n 2, 1, 0), (81, .invokestatic 322, 3, 3), (84, .iload_n 1, 1, 0), (85, .invokestatic 322, 3, 3), (88, .if_icmp .ge 5, 3, 2), (91, .iload_n 2, 1, 0), (92, .istore_n 1, 1, 0), (93, .iinc 2 1, 3, 0)],
  [(96, .goto (-87), 3, 2), (99, .iload_n 1, 1, 0), (100, .ireturn, 1, 6)]]
theorem nn_d273 : ab_dtok prog_14_method_75_code nn_dt273 = true := dw_ok (by decide +kernel)
def nn_dt274 : ab_DT := [[(0, .iconst 0, 1, 0), (1, .istore_n 1, 1, 0), (2, .iload_n 0, 1, 0), (3, .istore_n 2, 1, 0), (4, .iload_n 2, 1, 0), (5, .ifCond .eq 15, 3, 2), (8, .iinc 1 1, 3, 0), (11, .iload_n 2, 1, 0), (12, .iload_n 2, 1, 0), (13, .iconst 1, 1, 0), (14, .isub, 1, 0), (15, .iand, 1, 0)],
  [(16, .istore_n 2, 1, 0), (17, .goto (-13), 3, 2), (20, .iload_n 1, 1, 0), (21, .ireturn, 1, 6)]]
theorem nn_d274 : ab_dtok prog_14_method_10_code nn_dt274 = true := dw_ok (by decide +kernel)
def nn_dt275 : ab_DT := [[(0, .aload_n 0, 1, 0), (1, .iload_n 1, 1, 0), (2, .iload_n 3, 1, 0), (3, .iload 4, 2, 0), (5, .invokevirtual 342, 3, 3), (8, .ifCond .eq 34, 3, 2), (11, .aload_n 0, 1, 0), (12, .iload_n 2, 1, 0), (13, .invokevirtual 267, 3, 3)],
  [(16, .ifCond .eq 26, 3, 2), (19, .aload_n 0, 1, 0), (20, .iload 4, 2, 0), (22, .invokevirtual 303, 3, 3), (25, .iload_n 2, 1, 0), (26, .invokestatic 216, 3, 3), (29, .ifCond .eq 13, 3, 2)],
  [(32, .iload 5, 2, 0), (34, .iconst 0, 1, 0), (35, .iconst 1, 1, 0), (36, .invokestatic 171, 3, 3), (39, .ifCond .ne 8, 3, 2), (42, .aload_n 0, 1, 0), (43, .invokevirtual 345, 3, 3), (46, .lreturn, 1, 6), (47, .aload_n 0, 1, 0)],
  [(48, .iload_n 1, 1, 0), (49, .invokevirtual 335, 3, 3), (52, .aload_n 0, 1, 0), (53, .aload_n 0, 1, 0), (54, .iload_n 2, 1, 0), (55, .iload_n 3, 1, 0), (56, .aload_n 0, 1, 0), (57, .iload 4, 2, 0), (59, .invokevirtual 303, 3, 3), (62, .invokevirtual 331, 3, 3)],
  [(65, .ldc2_w 349, 3, 0), (68, .iload 5, 2, 0), (70, .invokevirtual 351, 3, 3), (73, .lreturn, 1, 6)]]
theorem nn_d275 : ab_dtok prog_14_method_81_code nn_dt275 = true := dw_ok (by decide +kernel)
def nn_dt276 : ab_DT := [[(0, .aload_n 0, 1, 0), (1, .iload_n 1, 1, 0), (2, .invokevirtual 281, 3, 3), (5, .ifCond .eq 25, 3, 2), (8, .iload_n 2, 1, 0), (9, .iconst 1, 1, 0), (10, .bipush 9, 2, 0), (12, .invokestatic 171, 3, 3), (15, .ifCond .eq 15, 3, 2)],
  [(18, .aload_n 0, 1, 0), (19, .iload_n 3, 1, 0), (20, .invokevirtual 264, 3, 3), (23, .ifCond .eq 7, 3, 2), (26, .iconst 1, 1, 0), (27, .goto 4, 3, 2), (30, .iconst 0, 1, 0), (31, .ireturn, 1, 6)]]
theorem nn_d276 : ab_dtok prog_14_method_80_code nn_dt276 = true := dw_ok (by decide +kernel)
def nn_dt277 : ab_DT := [[(0, .aload_n 0, 1, 0), (1, .iconst 1, 1, 0), (2, .putfield 100, 3, 1), (5, .lconst 0, 1, 0), (6, .lreturn, 1, 6)]]
theorem nn_d277 : ab_dtok prog_14_method_3_code nn_dt277 = true := dw_ok (by decide +kernel)
def nn_dt278 : ab_DT := [[(0, .iconst 0, 1, 0), (1, .istore_n 2, 1, 0), (2, .iload_n 2, 1, 0), (3, .bipush 9, 2, 0), (5, .if_icmp .ge 21, 3, 2), (8, .aload_n 0, 1, 0), (9, .getfield 48, 3, 1), (12, .iload_n 2, 1, 0), (13, .aload_n 0, 1, 0), (14, .iload_n 1, 1, 0), (15, .iload_n 2, 1, 0)],
  [(16, .invokevirtual 284, 3, 3), (19, .iastore, 1, 1), (20, .iinc 2 1, 3, 0), (23, .goto (-21), 3, 2), (26, .return_, 1, 6)]]
theorem nn_d278 : ab_dtok prog_14_method_76_code nn_dt278 = true := dw_ok (by decide +kernel)
def nn_dt279 : ab_DT := [[(0, .aload_n 0, 1, 0), (1, .iload_n 1, 1, 0), (2, .iload_n 2, 1, 0), (3, .iconst 0, 1, 0), (4, .iload_n 3, 1, 0), (5, .invokevirtual 306, 3, 3), (8, .iconst 1, 1, 0), (9, .iload_n 1, 1, 0), (10, .ishl, 1, 0), (11, .iconst (-1), 1, 0), (12, .ixor, 1, 0), (13, .iand, 1, 0), (14, .istore 4, 2, 0)],
  [(16, .aload_n 0, 1, 0), (17, .getfield 51, 3, 1), (20, .iconst 0, 1, 0), (21, .ldc2_w 325, 3, 0), (24, .lastore, 1, 1), (25, .iconst 0, 1, 0), (26, .istore 5, 2, 0), (28, .iconst 0, 1, 0), (29, .istore 6, 2, 0), (31, .iload 6, 2, 0)],
  [(33, .aload_n 0, 1, 0), (34, .invokevirtual 261, 3, 3), (37, .if_icmp .ge 110, 3, 2), (40, .iload 4, 2, 0), (42, .iload 6, 2, 0), (44, .invokestatic 216, 3, 3), (47, .ifCond .ne 6, 3, 2)],
  [(50, .goto 91, 3, 2), (53, .iinc 5 1, 3, 0), (56, .aload_n 0, 1, 0), (57, .getfield 51, 3, 1), (60, .iload 5, 2, 0), (62, .lconst 0, 1, 0), (63, .lastore, 1, 1)],
  [(64, .iload 5, 2, 0), (66, .istore 7, 2, 0), (68, .iload 7, 2, 0), (70, .ifCond .lt 71, 3, 2), (73, .aload_n 0, 1, 0), (74, .getfield 51, 3, 1), (77, .iload 7, 2, 0), (79, .aload_n 0, 1, 0)],
  [(80, .getfield 51, 3, 1), (83, .iload 7, 2, 0), (85, .laload, 1, 1), (86, .ldc2_w 327, 3, 0), (89, .ldiv, 1, 0), (90, .bipush 9, 2, 0), (92, .aload_n 0, 1, 0), (93, .getfield 48, 3, 1)],
  [(96, .iload 6, 2, 0), (98, .iaload, 1, 1), (99, .isub, 1, 0), (100, .i2l, 1, 0), (101, .lmul, 1, 0), (102, .iload 7, 2, 0), (104, .ifCond .le 28, 3, 2), (107, .aload_n 0, 1, 0), (108, .getfield 51, 3, 1), (111, .iload 7, 2, 0)],
  [(113, .iconst 1, 1, 0), (114, .isub, 1, 0), (115, .laload, 1, 1), (116, .ldc2_w 327, 3, 0), (119, .ldiv, 1, 0), (120, .aload_n 0, 1, 0), (121, .getfield 48, 3, 1), (124, .iload 6, 2, 0), (126, .iaload, 1, 1), (127, .i2l, 1, 0)],
  [(128, .lmul, 1, 0), (129, .goto 4, 3, 2), (132, .lconst 0, 1, 0), (133, .ladd, 1, 0), (134, .lastore, 1, 1), (135, .iinc 7 (-1), 3, 0), (138, .goto (-70), 3, 2), (141, .iinc 6 1, 3, 0)],
  [(144, .goto (-113), 3, 2), (147, .lconst 0, 1, 0), (148, .lstore 6, 2, 0), (150, .iconst 0, 1, 0), (151, .istore 8, 2, 0), (153, .iload 8, 2, 0), (155, .iload 5, 2, 0), (157, .if_icmp .gt 31, 3, 2)],
  [(160, .lload 6, 2, 0), (162, .aload_n 0, 1, 0), (163, .getfield 51, 3, 1), (166, .iload 8, 2, 0), (168, .laload, 1, 1), (169, .ldc2_w 329, 3, 0), (172, .iload 8, 2, 0), (174, .iconst 1, 1, 0), (175, .iadd, 1, 0)],
  [(176, .i2l, 1, 0), (177, .ldiv, 1, 0), (178, .lmul, 1, 0), (179, .ladd, 1, 0), (180, .lstore 6, 2, 0), (182, .iinc 8 1, 3, 0), (185, .goto (-32), 3, 2), (188, .lload 6, 2, 0), (190, .aload_n 0, 1, 0), (191, .getfield 48, 3, 1)],
  [(194, .iload_n 1, 1, 0), (195, .iaload, 1, 1), (196, .i2l, 1, 0), (197, .lmul, 1, 0), (198, .lreturn, 1, 6)]]
theorem nn_d279 : ab_dtok prog_14_method_77_code nn_dt279 = true := dw_ok (by decide +kernel)
def nn_DT_240 : List ab_DT := [nn_dt240, nn_dt241, nn_dt242, nn_dt243, nn_dt244, nn_dt245, nn_dt246, nn_dt247, nn_dt248, nn_dt249, nn_dt250, nn_dt251, nn_dt252, nn_dt253, nn_dt254, nn_dt255, nn_dt256, nn_dt257, nn_dt258, nn_dt259, nn_dt260, nn_dt261, nn_dt262, nn_dt263, nn_dt264, nn_dt265, nn_dt266, nn_dt267, nn_dt268, nn_dt269, nn_dt270, nn_dt271, nn_dt272, nn_dt273, nn_dt274, nn_dt275, nn_dt276, nn_dt277, nn_dt278, nn_dt279]
theorem nn_DT_240_ok : ab_dtP nn_MT_240 nn_DT_240 := ⟨nn_d240, nn_d241, nn_d242, nn_d243, nn_d244, nn_d245, nn_d246, nn_d247, nn_d248, nn_d249, nn_d250, nn_d251, nn_d252, nn_d253, nn_d254, nn_d255, nn_d256, nn_d257, nn_d258, nn_d259, nn_d260, nn_d261, nn_d262, nn_d263, nn_d264, nn_d265, nn_d266, nn_d267, nn_d268, nn_d269, nn_d270, nn_d271, nn_d272, nn_d273, nn_d274, nn_d275, nn_d276, nn_d277, nn_d278, nn_d279, trivial⟩
end
section
def nn_dt280 : ab_DT := [[(0, .aload_n 0, 1, 0), (1, .iconst 0, 1, 0), (2, .putfield 100, 3, 1), (5, .iload 5, 2, 0), (7, .ifCond .ne 7, 3, 2), (10, .lload_n 1, 1, 0), (11, .goto 4, 3, 2), (14, .lload_n 3, 1, 0), (15, .lload_n 1, 1, 0)],
  [(16, .lload_n 3, 1, 0), (17, .invokestatic 110, 3, 3), (20, .ldiv, 1, 0), (21, .lreturn, 1, 6)]]
theorem nn_d280 : ab_dtok prog_14_method_13_code nn_dt280 = true := dw_ok (by decide +kernel)
def nn_dt281 : ab_DT := [[(0, .lload_n 0, 1, 0), (1, .lstore 4, 2, 0), (3, .lload_n 2, 1, 0), (4, .lstore 6, 2, 0), (6, .lload 6, 2, 0), (8, .lconst 0, 1, 0), (9, .lcmp, 1, 2), (10, .ifCond .le 21, 3, 2), (13, .lload 4, 2, 0), (15, .lload 6, 2, 0)],
  [(17, .lrem, 1, 0), (18, .lstore 8, 2, 0), (20, .lload 6, 2, 0), (22, .lstore 4, 2, 0), (24, .lload 8, 2, 0), (26, .lstore 6, 2, 0), (28, .goto (-22), 3, 2), (31, .lload 4, 2, 0)],
  [(33, .lreturn, 1, 6)]]
theorem nn_d281 : ab_dtok prog_14_method_12_code nn_dt281 = true := dw_ok (by decide +kernel)
def nn_dt282 : ab_DT := [[(0, .aload_n 0, 1, 0), (1, .iload_n 1, 1, 0), (2, .iload_n 2, 1, 0), (3, .iload_n 3, 1, 0), (4, .invokevirtual 342, 3, 3), (7, .ifCond .eq 13, 3, 2), (10, .iload 4, 2, 0), (12, .iconst 0, 1, 0), (13, .iconst 1, 1, 0), (14, .invokestatic 171, 3, 3)],
  [(17, .ifCond .ne 8, 3, 2), (20, .aload_n 0, 1, 0), (21, .invokevirtual 345, 3, 3), (24, .lreturn, 1, 6), (25, .aload_n 0, 1, 0), (26, .aload_n 0, 1, 0), (27, .iload_n 1, 1, 0), (28, .iload_n 2, 1, 0), (29, .aload_n 0, 1, 0), (30, .iload_n 3, 1, 0), (31, .invokevirtual 303, 3, 3)],
  [(34, .invokevirtual 355, 3, 3), (37, .ldc2_w 358, 3, 0), (40, .iload 4, 2, 0), (42, .invokevirtual 351, 3, 3), (45, .lreturn, 1, 6)]]
theorem nn_d282 : ab_dtok prog_14_method_82_code nn_dt282 = true := dw_ok (by decide +kernel)
def nn_dt283 : ab_DT := [[(0, .aload_n 0, 1, 0), (1, .iload_n 1, 1, 0), (2, .invokevirtual 335, 3, 3), (5, .aload_n 0, 1, 0), (6, .iload_n 2, 1, 0), (7, .iload_n 3, 1, 0), (8, .invokevirtual 338, 3, 3), (11, .lreturn, 1, 6)]]
theorem nn_d283 : ab_dtok prog_14_method_79_code nn_dt283 = true := dw_ok (by decide +kernel)
def nn_dt284 : ab_DT := [[(0, .lconst 0, 1, 0), (1, .lstore_n 3, 1, 0), (2, .iconst 0, 1, 0), (3, .istore 5, 2, 0), (5, .iload 5, 2, 0), (7, .aload_n 0, 1, 0), (8, .invokevirtual 261, 3, 3), (11, .if_icmp .ge 29, 3, 2), (14, .iload_n 2, 1, 0), (15, .iload 5, 2, 0)],
  [(17, .invokestatic 216, 3, 3), (20, .ifCond .eq 14, 3, 2), (23, .lload_n 3, 1, 0), (24, .aload_n 0, 1, 0), (25, .iload 5, 2, 0), (27, .iload_n 1, 1, 0), (28, .iload_n 2, 1, 0), (29, .invokevirtual 331, 3, 3)],
  [(32, .ladd, 1, 0), (33, .lstore_n 3, 1, 0), (34, .iinc 5 1, 3, 0), (37, .goto (-32), 3, 2), (40, .lload_n 3, 1, 0), (41, .ldc2_w 329, 3, 0), (44, .iload_n 2, 1, 0), (45, .invokestatic 322, 3, 3)],
  [(48, .i2l, 1, 0), (49, .ldiv, 1, 0), (50, .lmul, 1, 0), (51, .lreturn, 1, 6)]]
theorem nn_d284 : ab_dtok prog_14_method_78_code nn_dt284 = true := dw_ok (by decide +kernel)
def nn_dt285 : ab_DT := [[(0, .aload_n 0, 1, 0), (1, .iload_n 1, 1, 0), (2, .invokevirtual 281, 3, 3), (5, .ifCond .eq 36, 3, 2), (8, .iload_n 2, 1, 0), (9, .iconst 1, 1, 0), (10, .bipush 9, 2, 0), (12, .invokestatic 171, 3, 3), (15, .ifCond .eq 26, 3, 2)],
  [(18, .iload_n 3, 1, 0), (19, .ifCond .le 22, 3, 2), (22, .iload_n 3, 1, 0), (23, .aload_n 0, 1, 0), (24, .iconst (-1), 1, 0), (25, .invokevirtual 303, 3, 3), (28, .if_icmp .gt 13, 3, 2), (31, .iload 4, 2, 0)],
  [(33, .iconst 0, 1, 0), (34, .iconst 1, 1, 0), (35, .invokestatic 171, 3, 3), (38, .ifCond .ne 8, 3, 2), (41, .aload_n 0, 1, 0), (42, .invokevirtual 345, 3, 3), (45, .lreturn, 1, 6), (46, .aload_n 0, 1, 0), (47, .aload_n 0, 1, 0)],
  [(48, .iload_n 1, 1, 0), (49, .iload_n 2, 1, 0), (50, .iload_n 3, 1, 0), (51, .invokevirtual 355, 3, 3), (54, .ldc2_w 358, 3, 0), (57, .iload 4, 2, 0), (59, .invokevirtual 351, 3, 3), (62, .lreturn, 1, 6)]]
theorem nn_d285 : ab_dtok prog_14_method_83_code nn_dt285 = true := dw_ok (by decide +kernel)
def nn_dt286 : ab_DT := [[(0, .aload_n 0, 1, 0), (1, .iconst 0, 1, 0), (2, .putfield 100, 3, 1), (5, .aload_n 0, 1, 0), (6, .iload_n 1, 1, 0), (7, .invokevirtual 281, 3, 3), (10, .ifCond .eq 21, 3, 2), (13, .iload_n 2, 1, 0), (14, .iconst 0, 1, 0), (15, .bipush 9, 2, 0)],
  [(17, .invokestatic 171, 3, 3), (20, .ifCond .eq 11, 3, 2), (23, .aload_n 0, 1, 0), (24, .iload_n 3, 1, 0), (25, .invokevirtual 264, 3, 3), (28, .ifCond .ne 5, 3, 2), (31, .iconst (-1), 1, 0)],
  [(32, .ireturn, 1, 6), (33, .iconst 1, 1, 0), (34, .istore 4, 2, 0), (36, .iload 4, 2, 0), (38, .bipush 9, 2, 0), (40, .if_icmp .gt 31, 3, 2), (43, .aload_n 0, 1, 0), (44, .iload_n 1, 1, 0), (45, .iload 4, 2, 0), (47, .aload_n 0, 1, 0)],
  [(48, .iload_n 3, 1, 0), (49, .invokevirtual 303, 3, 3), (52, .invokevirtual 355, 3, 3), (55, .iload_n 2, 1, 0), (56, .invokestatic 362, 3, 3), (59, .ifCond .eq 6, 3, 2), (62, .iload 4, 2, 0)],
  [(64, .ireturn, 1, 6), (65, .iinc 4 1, 3, 0), (68, .goto (-32), 3, 2), (71, .iconst (-1), 1, 0), (72, .ireturn, 1, 6)]]
theorem nn_d286 : ab_dtok prog_14_method_85_code nn_dt286 = true := dw_ok (by decide +kernel)
def nn_dt287 : ab_DT := [[(0, .lload_n 0, 1, 0), (1, .ldc2_w 360, 3, 0), (4, .iload_n 2, 1, 0), (5, .i2l, 1, 0), (6, .lmul, 1, 0), (7, .lcmp, 1, 2), (8, .ifCond .lt 7, 3, 2), (11, .iconst 1, 1, 0), (12, .goto 4, 3, 2), (15, .iconst 0, 1, 0)],
  [(16, .ireturn, 1, 6)]]
theorem nn_d287 : ab_dtok prog_14_method_84_code nn_dt287 = true := dw_ok (by decide +kernel)
def nn_dt288 : ab_DT := [[(0, .aload_n 0, 1, 0), (1, .iconst 0, 1, 0), (2, .putfield 100, 3, 1), (5, .iload_n 1, 1, 0), (6, .iconst 1, 1, 0), (7, .bipush 9, 2, 0), (9, .invokestatic 171, 3, 3), (12, .ifCond .eq 11, 3, 2), (15, .aload_n 0, 1, 0)],
  [(16, .iload_n 2, 1, 0), (17, .invokevirtual 264, 3, 3), (20, .ifCond .ne 5, 3, 2), (23, .iconst (-1), 1, 0), (24, .ireturn, 1, 6), (25, .iconst (-1), 1, 0), (26, .istore_n 3, 1, 0), (27, .ldc2_w 366, 3, 0), (30, .lstore 4, 2, 0)],
  [(32, .iconst 0, 1, 0), (33, .istore 6, 2, 0), (35, .iload 6, 2, 0), (37, .aload_n 0, 1, 0), (38, .getfield 13, 3, 1), (41, .iconst 2, 1, 0), (42, .iaload, 1, 1), (43, .if_icmp .ge 41, 3, 2), (46, .aload_n 0, 1, 0), (47, .iload 6, 2, 0)],
  [(49, .iload_n 1, 1, 0), (50, .aload_n 0, 1, 0), (51, .iload_n 2, 1, 0), (52, .invokevirtual 303, 3, 3), (55, .invokevirtual 355, 3, 3), (58, .lstore 7, 2, 0), (60, .lload 7, 2, 0), (62, .lload 4, 2, 0)],
  [(64, .lcmp, 1, 2), (65, .ifCond .gt 6, 3, 2), (68, .goto 10, 3, 2), (71, .iload 6, 2, 0), (73, .istore_n 3, 1, 0), (74, .lload 7, 2, 0), (76, .lstore 4, 2, 0), (78, .iinc 6 1, 3, 0)],
  [(81, .goto (-46), 3, 2), (84, .iload_n 3, 1, 0), (85, .ireturn, 1, 6)]]
theorem nn_d288 : ab_dtok prog_14_method_86_code nn_dt288 = true := dw_ok (by decide +kernel)
def nn_dt289 : ab_DT := [[(0, .aload_n 0, 1, 0), (1, .iload_n 1, 1, 0), (2, .iload_n 3, 1, 0), (3, .iload 4, 2, 0), (5, .invokevirtual 342, 3, 3), (8, .ifCond .eq 44, 3, 2), (11, .aload_n 0, 1, 0), (12, .iload_n 2, 1, 0), (13, .invokevirtual 267, 3, 3)],
  [(16, .ifCond .eq 36, 3, 2), (19, .aload_n 0, 1, 0), (20, .iload 4, 2, 0), (22, .invokevirtual 303, 3, 3), (25, .iload_n 2, 1, 0), (26, .invokestatic 216, 3, 3), (29, .ifCond .eq 23, 3, 2)],
  [(32, .iload 5, 2, 0), (34, .iconst 0, 1, 0), (35, .iconst 1, 1, 0), (36, .invokestatic 171, 3, 3), (39, .ifCond .eq 13, 3, 2), (42, .iload 6, 2, 0), (44, .iconst 0, 1, 0), (45, .iconst 1, 1, 0), (46, .invokestatic 171, 3, 3)],
  [(49, .ifCond .ne 8, 3, 2), (52, .aload_n 0, 1, 0), (53, .invokevirtual 345, 3, 3), (56, .lreturn, 1, 6), (57, .aload_n 0, 1, 0), (58, .iload_n 1, 1, 0), (59, .invokevirtual 335, 3, 3), (62, .aload_n 0, 1, 0), (63, .iload_n 2, 1, 0)],
  [(64, .iload_n 3, 1, 0), (65, .aload_n 0, 1, 0), (66, .iload 4, 2, 0), (68, .invokevirtual 303, 3, 3), (71, .invokevirtual 331, 3, 3), (74, .lstore 7, 2, 0), (76, .iload 5, 2, 0), (78, .iconst 1, 1, 0), (79, .if_icmp .ne 13, 3, 2)],
  [(82, .lload 7, 2, 0), (84, .lconst 0, 1, 0), (85, .lcmp, 1, 2), (86, .ifCond .ne 20, 3, 2), (89, .goto 12, 3, 2), (92, .lload 7, 2, 0), (94, .ldc2_w 349, 3, 0)],
  [(97, .lcmp, 1, 2), (98, .ifCond .ne 8, 3, 2), (101, .aload_n 0, 1, 0), (102, .invokevirtual 345, 3, 3), (105, .lreturn, 1, 6), (106, .iload 5, 2, 0), (108, .iconst 1, 1, 0), (109, .if_icmp .ne 14, 3, 2)],
  [(112, .aload_n 0, 1, 0), (113, .lconst 1, 1, 0), (114, .lconst 1, 1, 0), (115, .iload 6, 2, 0), (117, .invokevirtual 351, 3, 3), (120, .goto 29, 3, 2), (123, .aload_n 0, 1, 0), (124, .ldc2_w 368, 3, 0), (127, .aload_n 0, 1, 0)],
  [(128, .getfield 48, 3, 1), (131, .iload_n 2, 1, 0), (132, .iaload, 1, 1), (133, .i2l, 1, 0), (134, .lmul, 1, 0), (135, .lload 7, 2, 0), (137, .lsub, 1, 0), (138, .ldc2_w 349, 3, 0), (141, .lload 7, 2, 0), (143, .lsub, 1, 0)],
  [(144, .iload 6, 2, 0), (146, .invokevirtual 351, 3, 3), (149, .lreturn, 1, 6)]]
theorem nn_d289 : ab_dtok prog_14_method_87_code nn_dt289 = true := dw_ok (by decide +kernel)
def nn_dt290 : ab_DT := [[(0, .aload_n 0, 1, 0), (1, .iconst 0, 1, 0), (2, .putfield 100, 3, 1), (5, .aload_n 0, 1, 0), (6, .iload_n 1, 1, 0), (7, .iload_n 2, 1, 0), (8, .iload_n 3, 1, 0), (9, .invokevirtual 342, 3, 3), (12, .ifCond .eq 14, 3, 2), (15, .iload 4, 2, 0)],
  [(17, .iconst 0, 1, 0), (18, .bipush 9, 2, 0), (20, .invokestatic 171, 3, 3), (23, .ifCond .ne 5, 3, 2), (26, .iconst (-1), 1, 0), (27, .ireturn, 1, 6), (28, .iconst 0, 1, 0), (29, .istore 5, 2, 0), (31, .aload_n 0, 1, 0)],
  [(32, .iload_n 1, 1, 0), (33, .iload_n 2, 1, 0), (34, .aload_n 0, 1, 0), (35, .iload_n 3, 1, 0), (36, .invokevirtual 303, 3, 3), (39, .iconst 0, 1, 0), (40, .invokevirtual 370, 3, 3), (43, .lstore 6, 2, 0), (45, .iconst 1, 1, 0), (46, .istore 8, 2, 0)],
  [(48, .iload 8, 2, 0), (50, .aload_n 0, 1, 0), (51, .iload_n 3, 1, 0), (52, .invokevirtual 303, 3, 3), (55, .if_icmp .gt 90, 3, 2), (58, .iload 8, 2, 0), (60, .aload_n 0, 1, 0), (61, .iload_n 3, 1, 0), (62, .invokevirtual 303, 3, 3)],
  [(65, .iconst (-1), 1, 0), (66, .ixor, 1, 0), (67, .iand, 1, 0), (68, .ifCond .ne 71, 3, 2), (71, .iload 8, 2, 0), (73, .invokestatic 322, 3, 3), (76, .iload 4, 2, 0), (78, .if_icmp .le 6, 3, 2)],
  [(81, .goto 58, 3, 2), (84, .aload_n 0, 1, 0), (85, .iload_n 1, 1, 0), (86, .iload_n 2, 1, 0), (87, .aload_n 0, 1, 0), (88, .iload_n 3, 1, 0), (89, .invokevirtual 303, 3, 3), (92, .iload 8, 2, 0), (94, .invokevirtual 370, 3, 3)],
  [(97, .lstore 9, 2, 0), (99, .lload 9, 2, 0), (101, .lload 6, 2, 0), (103, .lcmp, 1, 2), (104, .ifCond .lt 35, 3, 2), (107, .lload 9, 2, 0), (109, .lload 6, 2, 0), (111, .lcmp, 1, 2)],
  [(112, .ifCond .ne 19, 3, 2), (115, .iload 8, 2, 0), (117, .invokestatic 322, 3, 3), (120, .iload 5, 2, 0), (122, .invokestatic 322, 3, 3), (125, .if_icmp .lt 6, 3, 2)],
  [(128, .goto 11, 3, 2), (131, .iload 8, 2, 0), (133, .istore 5, 2, 0), (135, .lload 9, 2, 0), (137, .lstore 6, 2, 0), (139, .iinc 8 1, 3, 0), (142, .goto (-94), 3, 2)],
  [(145, .iload 5, 2, 0), (147, .ireturn, 1, 6)]]
theorem nn_d290 : ab_dtok prog_14_method_89_code nn_dt290 = true := dw_ok (by decide +kernel)
def nn_dt291 : ab_DT := [[(0, .aload_n 0, 1, 0), (1, .iload_n 1, 1, 0), (2, .invokevirtual 335, 3, 3), (5, .iconst 0, 1, 0), (6, .istore 5, 2, 0), (8, .iload 5, 2, 0), (10, .aload_n 0, 1, 0), (11, .invokevirtual 261, 3, 3), (14, .if_icmp .ge 28, 3, 2)],
  [(17, .iload 4, 2, 0), (19, .iload 5, 2, 0), (21, .invokestatic 216, 3, 3), (24, .ifCond .eq 12, 3, 2), (27, .aload_n 0, 1, 0), (28, .getfield 48, 3, 1), (31, .iload 5, 2, 0)],
  [(33, .bipush 9, 2, 0), (35, .iastore, 1, 1), (36, .iinc 5 1, 3, 0), (39, .goto (-31), 3, 2), (42, .aload_n 0, 1, 0), (43, .iload_n 2, 1, 0), (44, .iload_n 3, 1, 0), (45, .invokevirtual 338, 3, 3)],
  [(48, .lreturn, 1, 6)]]
theorem nn_d291 : ab_dtok prog_14_method_88_code nn_dt291 = true := dw_ok (by decide +kernel)
def nn_dt292 : ab_DT := [[(0, .aload_n 0, 1, 0), (1, .iconst 0, 1, 0), (2, .putfield 100, 3, 1), (5, .aload_n 0, 1, 0), (6, .iload_n 1, 1, 0), (7, .iload_n 2, 1, 0), (8, .iload_n 3, 1, 0), (9, .invokevirtual 342, 3, 3), (12, .ifCond .eq 14, 3, 2), (15, .iload 4, 2, 0)],
  [(17, .iconst 0, 1, 0), (18, .bipush 9, 2, 0), (20, .invokestatic 171, 3, 3), (23, .ifCond .ne 5, 3, 2), (26, .iconst (-1), 1, 0), (27, .ireturn, 1, 6), (28, .iconst (-1), 1, 0), (29, .istore 5, 2, 0), (31, .iconst 0, 1, 0)],
  [(32, .istore 6, 2, 0), (34, .iload 6, 2, 0), (36, .aload_n 0, 1, 0), (37, .iload_n 3, 1, 0), (38, .invokevirtual 303, 3, 3), (41, .if_icmp .gt 69, 3, 2), (44, .iload 6, 2, 0), (46, .aload_n 0, 1, 0), (47, .iload_n 3, 1, 0)],
  [(48, .invokevirtual 303, 3, 3), (51, .iconst (-1), 1, 0), (52, .ixor, 1, 0), (53, .iand, 1, 0), (54, .ifCond .ne 50, 3, 2), (57, .iload 5, 2, 0), (59, .iconst (-1), 1, 0), (60, .if_icmp .eq 19, 3, 2), (63, .iload 6, 2, 0)],
  [(65, .invokestatic 322, 3, 3), (68, .iload 5, 2, 0), (70, .invokestatic 322, 3, 3), (73, .if_icmp .lt 6, 3, 2), (76, .goto 28, 3, 2), (79, .aload_n 0, 1, 0)],
  [(80, .iload_n 1, 1, 0), (81, .iload_n 2, 1, 0), (82, .aload_n 0, 1, 0), (83, .iload_n 3, 1, 0), (84, .invokevirtual 303, 3, 3), (87, .iload 6, 2, 0), (89, .invokevirtual 370, 3, 3), (92, .iload 4, 2, 0), (94, .invokestatic 362, 3, 3)],
  [(97, .ifCond .eq 7, 3, 2), (100, .iload 6, 2, 0), (102, .istore 5, 2, 0), (104, .iinc 6 1, 3, 0), (107, .goto (-73), 3, 2), (110, .iload 5, 2, 0)],
  [(112, .ireturn, 1, 6)]]
theorem nn_d292 : ab_dtok prog_14_method_90_code nn_dt292 = true := dw_ok (by decide +kernel)
def nn_dt293 : ab_DT := [[(0, .aload_n 0, 1, 0), (1, .iconst 0, 1, 0), (2, .putfield 100, 3, 1), (5, .aload_n 0, 1, 0), (6, .iload_n 1, 1, 0), (7, .iload_n 2, 1, 0), (8, .iload_n 3, 1, 0), (9, .iload 4, 2, 0), (11, .invokevirtual 384, 3, 3), (14, .ifCond .ne 5, 3, 2)],
  [(17, .iconst (-1), 1, 0), (18, .ireturn, 1, 6), (19, .aload_n 0, 1, 0), (20, .iload_n 1, 1, 0), (21, .iload_n 2, 1, 0), (22, .iload 4, 2, 0), (24, .invokevirtual 387, 3, 3), (27, .aload_n 0, 1, 0), (28, .getfield 63, 3, 1), (31, .iload_n 3, 1, 0)],
  [(32, .iaload, 1, 1), (33, .ireturn, 1, 6)]]
theorem nn_d293 : ab_dtok prog_14_method_96_code nn_dt293 = true := dw_ok (by decide +kernel)
def nn_dt294 : ab_DT := [[(0, .aload_n 0, 1, 0), (1, .iload_n 1, 1, 0), (2, .iload_n 2, 1, 0), (3, .iload 4, 2, 0), (5, .invokevirtual 381, 3, 3), (8, .ifCond .eq 17, 3, 2), (11, .iload_n 3, 1, 0), (12, .iconst 0, 1, 0), (13, .bipush 9, 2, 0), (15, .invokestatic 171, 3, 3)],
  [(18, .ifCond .eq 7, 3, 2), (21, .iconst 1, 1, 0), (22, .goto 4, 3, 2), (25, .iconst 0, 1, 0), (26, .ireturn, 1, 6)]]
theorem nn_d294 : ab_dtok prog_14_method_95_code nn_dt294 = true := dw_ok (by decide +kernel)
def nn_dt295 : ab_DT := [[(0, .aload_n 0, 1, 0), (1, .iload_n 1, 1, 0), (2, .invokevirtual 281, 3, 3), (5, .ifCond .eq 28, 3, 2), (8, .aload_n 0, 1, 0), (9, .iload_n 2, 1, 0), (10, .invokevirtual 281, 3, 3), (13, .ifCond .eq 20, 3, 2)],
  [(16, .iload_n 1, 1, 0), (17, .iload_n 2, 1, 0), (18, .if_icmp .eq 15, 3, 2), (21, .aload_n 0, 1, 0), (22, .iload_n 3, 1, 0), (23, .invokevirtual 264, 3, 3), (26, .ifCond .eq 7, 3, 2), (29, .iconst 1, 1, 0), (30, .goto 4, 3, 2)],
  [(33, .iconst 0, 1, 0), (34, .ireturn, 1, 6)]]
theorem nn_d295 : ab_dtok prog_14_method_91_code nn_dt295 = true := dw_ok (by decide +kernel)
def nn_dt296 : ab_DT := [[(0, .aload_n 0, 1, 0), (1, .iload_n 1, 1, 0), (2, .iload_n 2, 1, 0), (3, .iload_n 3, 1, 0), (4, .invokevirtual 374, 3, 3), (7, .iconst 1, 1, 0), (8, .istore 4, 2, 0), (10, .iload 4, 2, 0), (12, .bipush 10, 2, 0), (14, .if_icmp .gt 157, 3, 2)],
  [(17, .iload 4, 2, 0), (19, .bipush 10, 2, 0), (21, .irem, 1, 0), (22, .istore 5, 2, 0), (24, .iconst 0, 1, 0), (25, .istore 6, 2, 0), (27, .iload 6, 2, 0), (29, .iconst 2, 1, 0), (30, .if_icmp .ge 135, 3, 2)],
  [(33, .bipush 10, 2, 0), (35, .iload 6, 2, 0), (37, .imul, 1, 0), (38, .iload 5, 2, 0), (40, .iadd, 1, 0), (41, .istore 7, 2, 0), (43, .iload 5, 2, 0), (45, .ifCond .ne 9, 3, 2)],
  [(48, .ldc2_w 366, 3, 0), (51, .goto 23, 3, 2), (54, .ldc2_w 358, 3, 0), (57, .aload_n 0, 1, 0), (58, .getfield 54, 3, 1), (61, .bipush 10, 2, 0), (63, .bipush 10, 2, 0)],
  [(65, .iload 6, 2, 0), (67, .imul, 1, 0), (68, .isub, 1, 0), (69, .iload 5, 2, 0), (71, .iadd, 1, 0), (72, .laload, 1, 1), (73, .lsub, 1, 0), (74, .lstore 8, 2, 0), (76, .aload_n 0, 1, 0), (77, .getfield 63, 3, 1)],
  [(80, .iload 7, 2, 0), (82, .iconst 0, 1, 0), (83, .iastore, 1, 1), (84, .aload_n 0, 1, 0), (85, .iload 5, 2, 0), (87, .invokevirtual 378, 3, 3), (90, .istore 10, 2, 0), (92, .iload 10, 2, 0), (94, .iconst 1, 1, 0), (95, .if_icmp .lt 55, 3, 2)],
  [(98, .ldc2_w 358, 3, 0), (101, .aload_n 0, 1, 0), (102, .getfield 57, 3, 1), (105, .bipush 10, 2, 0), (107, .bipush 10, 2, 0), (109, .iload 6, 2, 0), (111, .imul, 1, 0)],
  [(112, .isub, 1, 0), (113, .iload 10, 2, 0), (115, .iadd, 1, 0), (116, .laload, 1, 1), (117, .lsub, 1, 0), (118, .lstore 11, 2, 0), (120, .lload 11, 2, 0), (122, .lload 8, 2, 0), (124, .lcmp, 1, 2), (125, .ifCond .gt 6, 3, 2)],
  [(128, .goto 16, 3, 2), (131, .lload 11, 2, 0), (133, .lstore 8, 2, 0), (135, .aload_n 0, 1, 0), (136, .getfield 63, 3, 1), (139, .iload 7, 2, 0), (141, .iload 10, 2, 0), (143, .iastore, 1, 1)],
  [(144, .iinc 10 (-1), 3, 0), (147, .goto (-55), 3, 2), (150, .aload_n 0, 1, 0), (151, .getfield 57, 3, 1), (154, .iload 7, 2, 0), (156, .lload 8, 2, 0), (158, .lastore, 1, 1), (159, .iinc 6 1, 3, 0)],
  [(162, .goto (-135), 3, 2), (165, .iinc 4 1, 3, 0), (168, .goto (-158), 3, 2), (171, .return_, 1, 6)]]
theorem nn_d296 : ab_dtok prog_14_method_94_code nn_dt296 = true := dw_ok (by decide +kernel)
def nn_dt297 : ab_DT := [[(0, .iconst 1, 1, 0), (1, .istore 4, 2, 0), (3, .iload 4, 2, 0), (5, .bipush 9, 2, 0), (7, .if_icmp .gt 50, 3, 2), (10, .aload_n 0, 1, 0), (11, .getfield 54, 3, 1), (14, .iload 4, 2, 0)],
  [(16, .aload_n 0, 1, 0), (17, .iload_n 1, 1, 0), (18, .iload 4, 2, 0), (20, .aload_n 0, 1, 0), (21, .iload_n 3, 1, 0), (22, .invokevirtual 303, 3, 3), (25, .invokevirtual 355, 3, 3), (28, .lastore, 1, 1), (29, .aload_n 0, 1, 0), (30, .getfield 54, 3, 1)],
  [(33, .bipush 10, 2, 0), (35, .iload 4, 2, 0), (37, .iadd, 1, 0), (38, .aload_n 0, 1, 0), (39, .iload_n 2, 1, 0), (40, .iload 4, 2, 0), (42, .aload_n 0, 1, 0), (43, .iload_n 3, 1, 0), (44, .invokevirtual 303, 3, 3), (47, .invokevirtual 355, 3, 3)],
  [(50, .lastore, 1, 1), (51, .iinc 4 1, 3, 0), (54, .goto (-51), 3, 2), (57, .return_, 1, 6)]]
theorem nn_d297 : ab_dtok prog_14_method_92_code nn_dt297 = true := dw_ok (by decide +kernel)
def nn_dt298 : ab_DT := [[(0, .iload_n 1, 1, 0), (1, .ifCond .ne 12, 3, 2), (4, .aload_n 0, 1, 0), (5, .getfield 13, 3, 1), (8, .iconst 3, 1, 0), (9, .iaload, 1, 1), (10, .goto 6, 3, 2), (13, .iload_n 1, 1, 0), (14, .iconst 1, 1, 0), (15, .isub, 1, 0)],
  [(16, .ireturn, 1, 6)]]
theorem nn_d298 : ab_dtok prog_14_method_93_code nn_dt298 = true := dw_ok (by decide +kernel)
def nn_dt299 : ab_DT := [[(0, .aload_n 0, 1, 0), (1, .iload_n 1, 1, 0), (2, .iload_n 2, 1, 0), (3, .iload_n 3, 1, 0), (4, .iload 4, 2, 0), (6, .invokevirtual 384, 3, 3), (9, .ifCond .eq 13, 3, 2), (12, .iload 5, 2, 0), (14, .iconst 0, 1, 0), (15, .iconst 1, 1, 0)],
  [(16, .invokestatic 171, 3, 3), (19, .ifCond .ne 8, 3, 2), (22, .aload_n 0, 1, 0), (23, .invokevirtual 345, 3, 3), (26, .lreturn, 1, 6), (27, .aload_n 0, 1, 0), (28, .iload_n 1, 1, 0), (29, .iload_n 2, 1, 0), (30, .iload 4, 2, 0)],
  [(32, .invokevirtual 387, 3, 3), (35, .aload_n 0, 1, 0), (36, .aload_n 0, 1, 0), (37, .getfield 57, 3, 1), (40, .iload_n 3, 1, 0), (41, .laload, 1, 1), (42, .ldc2_w 358, 3, 0), (45, .iload 5, 2, 0), (47, .invokevirtual 351, 3, 3)],
  [(50, .lreturn, 1, 6)]]
theorem nn_d299 : ab_dtok prog_14_method_97_code nn_dt299 = true := dw_ok (by decide +kernel)
def nn_dt300 : ab_DT := [[(0, .aload_n 0, 1, 0), (1, .iconst 0, 1, 0), (2, .putfield 100, 3, 1), (5, .aload_n 0, 1, 0), (6, .iload_n 1, 1, 0), (7, .iload_n 2, 1, 0), (8, .iload_n 3, 1, 0), (9, .iload 4, 2, 0), (11, .invokevirtual 384, 3, 3), (14, .ifCond .ne 5, 3, 2)],
  [(17, .iconst (-1), 1, 0), (18, .ireturn, 1, 6), (19, .aload_n 0, 1, 0), (20, .iload_n 1, 1, 0), (21, .iload_n 2, 1, 0), (22, .iload 4, 2, 0), (24, .invokevirtual 393, 3, 3), (27, .aload_n 0, 1, 0), (28, .getfield 66, 3, 1), (31, .iload_n 3, 1, 0)],
  [(32, .iaload, 1, 1), (33, .ireturn, 1, 6)]]
theorem nn_d300 : ab_dtok prog_14_method_100_code nn_dt300 = true := dw_ok (by decide +kernel)
def nn_dt301 : ab_DT := [[(0, .aload_n 0, 1, 0), (1, .iload_n 1, 1, 0), (2, .iload_n 2, 1, 0), (3, .iload_n 3, 1, 0), (4, .invokevirtual 374, 3, 3), (7, .iconst 1, 1, 0), (8, .istore 4, 2, 0), (10, .iload 4, 2, 0), (12, .bipush 10, 2, 0), (14, .if_icmp .gt 113, 3, 2)],
  [(17, .iload 4, 2, 0), (19, .bipush 10, 2, 0), (21, .irem, 1, 0), (22, .istore 5, 2, 0), (24, .iload 5, 2, 0), (26, .ifCond .ne 9, 3, 2), (29, .ldc2_w 366, 3, 0)],
  [(32, .goto 17, 3, 2), (35, .ldc2_w 358, 3, 0), (38, .aload_n 0, 1, 0), (39, .getfield 54, 3, 1), (42, .bipush 10, 2, 0), (44, .iload 5, 2, 0), (46, .iadd, 1, 0), (47, .laload, 1, 1)],
  [(48, .lsub, 1, 0), (49, .lstore 6, 2, 0), (51, .aload_n 0, 1, 0), (52, .getfield 66, 3, 1), (55, .iload 5, 2, 0), (57, .iconst 0, 1, 0), (58, .iastore, 1, 1), (59, .aload_n 0, 1, 0), (60, .iload 5, 2, 0), (62, .invokevirtual 378, 3, 3)],
  [(65, .istore 8, 2, 0), (67, .iload 8, 2, 0), (69, .iconst 1, 1, 0), (70, .if_icmp .lt 42, 3, 2), (73, .aload_n 0, 1, 0), (74, .iload 8, 2, 0), (76, .iload_n 2, 1, 0), (77, .invokevirtual 390, 3, 3)],
  [(80, .lstore 9, 2, 0), (82, .lload 9, 2, 0), (84, .lload 6, 2, 0), (86, .lcmp, 1, 2), (87, .ifCond .gt 6, 3, 2), (90, .goto 16, 3, 2), (93, .lload 9, 2, 0), (95, .lstore 6, 2, 0)],
  [(97, .aload_n 0, 1, 0), (98, .getfield 66, 3, 1), (101, .iload 5, 2, 0), (103, .iload 8, 2, 0), (105, .iastore, 1, 1), (106, .iinc 8 (-1), 3, 0), (109, .goto (-42), 3, 2)],
  [(112, .aload_n 0, 1, 0), (113, .getfield 60, 3, 1), (116, .iload 5, 2, 0), (118, .lload 6, 2, 0), (120, .lastore, 1, 1), (121, .iinc 4 1, 3, 0), (124, .goto (-114), 3, 2), (127, .return_, 1, 6)]]
theorem nn_d301 : ab_dtok prog_14_method_99_code nn_dt301 = true := dw_ok (by decide +kernel)
def nn_dt302 : ab_DT := [[(0, .iload_n 1, 1, 0), (1, .iconst 1, 1, 0), (2, .if_icmp .eq 30, 3, 2), (5, .aload_n 0, 1, 0), (6, .getfield 54, 3, 1), (9, .bipush 10, 2, 0), (11, .iload_n 1, 1, 0), (12, .iadd, 1, 0), (13, .iconst 1, 1, 0), (14, .isub, 1, 0), (15, .laload, 1, 1)],
  [(16, .aload_n 0, 1, 0), (17, .getfield 13, 3, 1), (20, .sipush 227, 3, 0), (23, .iload_n 2, 1, 0), (24, .iadd, 1, 0), (25, .iaload, 1, 1), (26, .invokestatic 362, 3, 3), (29, .ifCond .ne 10, 3, 2)],
  [(32, .aload_n 0, 1, 0), (33, .getfield 54, 3, 1), (36, .iload_n 1, 1, 0), (37, .laload, 1, 1), (38, .lreturn, 1, 6), (39, .aload_n 0, 1, 0), (40, .getfield 60, 3, 1), (43, .iload_n 1, 1, 0), (44, .iconst 1, 1, 0), (45, .isub, 1, 0), (46, .laload, 1, 1), (47, .lreturn, 1, 6)]]
theorem nn_d302 : ab_dtok prog_14_method_98_code nn_dt302 = true := dw_ok (by decide +kernel)
def nn_dt303 : ab_DT := [[(0, .aload_n 0, 1, 0), (1, .iload_n 1, 1, 0), (2, .iload_n 2, 1, 0), (3, .iload_n 3, 1, 0), (4, .iload 4, 2, 0), (6, .invokevirtual 384, 3, 3), (9, .ifCond .eq 13, 3, 2), (12, .iload 5, 2, 0), (14, .iconst 0, 1, 0), (15, .iconst 1, 1, 0)],
  [(16, .invokestatic 171, 3, 3), (19, .ifCond .ne 8, 3, 2), (22, .aload_n 0, 1, 0), (23, .invokevirtual 345, 3, 3), (26, .lreturn, 1, 6), (27, .aload_n 0, 1, 0), (28, .iload_n 1, 1, 0), (29, .iload_n 2, 1, 0), (30, .iload 4, 2, 0)],
  [(32, .invokevirtual 393, 3, 3), (35, .aload_n 0, 1, 0), (36, .aload_n 0, 1, 0), (37, .getfield 60, 3, 1), (40, .iload_n 3, 1, 0), (41, .laload, 1, 1), (42, .ldc2_w 358, 3, 0), (45, .iload 5, 2, 0), (47, .invokevirtual 351, 3, 3)],
  [(50, .lreturn, 1, 6)]]
theorem nn_d303 : ab_dtok prog_14_method_101_code nn_dt303 = true := dw_ok (by decide +kernel)
def nn_dt304 : ab_DT := [[(0, .aload_n 0, 1, 0), (1, .iconst 0, 1, 0), (2, .putfield 100, 3, 1), (5, .aload_n 0, 1, 0), (6, .iload_n 1, 1, 0), (7, .iload_n 2, 1, 0), (8, .iload_n 3, 1, 0), (9, .invokevirtual 381, 3, 3), (12, .ifCond .ne 5, 3, 2), (15, .iconst (-1), 1, 0)],
  [(16, .ireturn, 1, 6), (17, .aload_n 0, 1, 0), (18, .iload_n 1, 1, 0), (19, .iload_n 2, 1, 0), (20, .iload_n 3, 1, 0), (21, .invokevirtual 387, 3, 3), (24, .ldc2_w 396, 3, 0), (27, .aload_n 0, 1, 0), (28, .getfield 57, 3, 1), (31, .iconst 0, 1, 0)],
  [(32, .laload, 1, 1), (33, .lmul, 1, 0), (34, .lstore 4, 2, 0), (36, .ldc2_w 396, 3, 0), (39, .ldc2_w 358, 3, 0), (42, .aload_n 0, 1, 0), (43, .getfield 57, 3, 1), (46, .bipush 10, 2, 0)],
  [(48, .laload, 1, 1), (49, .lsub, 1, 0), (50, .lmul, 1, 0), (51, .lstore 6, 2, 0), (53, .lload 4, 2, 0), (55, .ldc2_w 358, 3, 0), (58, .lcmp, 1, 2), (59, .ifCond .le 14, 3, 2), (62, .lload 6, 2, 0)],
  [(64, .ldc2_w 358, 3, 0), (67, .lcmp, 1, 2), (68, .ifCond .le 5, 3, 2), (71, .iconst 1, 1, 0), (72, .ireturn, 1, 6), (73, .lload 4, 2, 0), (75, .ldc2_w 358, 3, 0), (78, .lcmp, 1, 2), (79, .ifCond .ge 16, 3, 2)],
  [(82, .lload 6, 2, 0), (84, .ldc2_w 358, 3, 0), (87, .lcmp, 1, 2), (88, .ifCond .ge 7, 3, 2), (91, .iconst (-1), 1, 0), (92, .goto 4, 3, 2), (95, .iconst 0, 1, 0)],
  [(96, .ireturn, 1, 6)]]
theorem nn_d304 : ab_dtok prog_14_method_102_code nn_dt304 = true := dw_ok (by decide +kernel)
def nn_dt305 : ab_DT := [[(0, .aload_n 0, 1, 0), (1, .iconst 0, 1, 0), (2, .putfield 100, 3, 1), (5, .aload_n 0, 1, 0), (6, .iload_n 1, 1, 0), (7, .iload_n 2, 1, 0), (8, .iload_n 3, 1, 0), (9, .invokevirtual 381, 3, 3), (12, .ifCond .eq 13, 3, 2), (15, .aload_n 0, 1, 0)],
  [(16, .iload_n 1, 1, 0), (17, .iload_n 2, 1, 0), (18, .iload_n 3, 1, 0), (19, .invokevirtual 398, 3, 3), (22, .goto 4, 3, 2), (25, .iconst (-1), 1, 0), (26, .ireturn, 1, 6)]]
theorem nn_d305 : ab_dtok prog_14_method_104_code nn_dt305 = true := dw_ok (by decide +kernel)
def nn_dt306 : ab_DT := [[(0, .aload_n 0, 1, 0), (1, .iload_n 1, 1, 0), (2, .iload_n 2, 1, 0), (3, .iload_n 3, 1, 0), (4, .invokevirtual 387, 3, 3), (7, .iconst 0, 1, 0), (8, .istore 4, 2, 0), (10, .iconst 0, 1, 0), (11, .istore 5, 2, 0), (13, .aload_n 0, 1, 0), (14, .getfield 63, 3, 1)],
  [(17, .bipush 10, 2, 0), (19, .iload 5, 2, 0), (21, .imul, 1, 0), (22, .iload 4, 2, 0), (24, .iadd, 1, 0), (25, .iaload, 1, 1), (26, .ifCond .eq 27, 3, 2), (29, .aload_n 0, 1, 0), (30, .getfield 63, 3, 1)],
  [(33, .bipush 10, 2, 0), (35, .iload 5, 2, 0), (37, .imul, 1, 0), (38, .iload 4, 2, 0), (40, .iadd, 1, 0), (41, .iaload, 1, 1), (42, .istore 4, 2, 0), (44, .iconst 1, 1, 0), (45, .iload 5, 2, 0), (47, .isub, 1, 0)],
  [(48, .istore 5, 2, 0), (50, .goto (-37), 3, 2), (53, .iload 4, 2, 0), (55, .ireturn, 1, 6)]]
theorem nn_d306 : ab_dtok prog_14_method_103_code nn_dt306 = true := dw_ok (by decide +kernel)
def nn_dt307 : ab_DT := [[(0, .aload_n 0, 1, 0), (1, .iconst 0, 1, 0), (2, .putfield 100, 3, 1), (5, .iconst (-1), 1, 0), (6, .istore_n 3, 1, 0), (7, .bipush 99, 2, 0), (9, .istore 4, 2, 0), (11, .iconst 0, 1, 0), (12, .istore 5, 2, 0), (14, .iload 5, 2, 0)],
  [(16, .aload_n 0, 1, 0), (17, .getfield 13, 3, 1), (20, .iconst 1, 1, 0), (21, .iaload, 1, 1), (22, .if_icmp .ge 47, 3, 2), (25, .aload_n 0, 1, 0), (26, .iload_n 1, 1, 0), (27, .iload_n 2, 1, 0), (28, .iload 5, 2, 0), (30, .invokevirtual 381, 3, 3)],
  [(33, .ifCond .eq 36, 3, 2), (36, .aload_n 0, 1, 0), (37, .iload_n 1, 1, 0), (38, .iload_n 2, 1, 0), (39, .iload 5, 2, 0), (41, .invokevirtual 398, 3, 3), (44, .istore 6, 2, 0), (46, .iload 6, 2, 0)],
  [(48, .iload 4, 2, 0), (50, .if_icmp .lt 6, 3, 2), (53, .goto 10, 3, 2), (56, .iload 5, 2, 0), (58, .istore_n 3, 1, 0), (59, .iload 6, 2, 0), (61, .istore 4, 2, 0), (63, .iinc 5 1, 3, 0)],
  [(66, .goto (-52), 3, 2), (69, .iload_n 3, 1, 0), (70, .ireturn, 1, 6)]]
theorem nn_d307 : ab_dtok prog_14_method_105_code nn_dt307 = true := dw_ok (by decide +kernel)
def nn_dt308 : ab_DT := [[(0, .aload_n 0, 1, 0), (1, .iconst 0, 1, 0), (2, .putfield 100, 3, 1), (5, .iconst (-1), 1, 0), (6, .istore_n 3, 1, 0), (7, .lconst 0, 1, 0), (8, .lstore 4, 2, 0), (10, .iconst 0, 1, 0), (11, .istore 6, 2, 0), (13, .iload 6, 2, 0), (15, .aload_n 0, 1, 0)],
  [(16, .getfield 13, 3, 1), (19, .iconst 1, 1, 0), (20, .iaload, 1, 1), (21, .if_icmp .ge 79, 3, 2), (24, .aload_n 0, 1, 0), (25, .iload_n 1, 1, 0), (26, .iload_n 2, 1, 0), (27, .iload 6, 2, 0), (29, .invokevirtual 381, 3, 3)],
  [(32, .ifCond .eq 68, 3, 2), (35, .aload_n 0, 1, 0), (36, .iload_n 1, 1, 0), (37, .iload_n 2, 1, 0), (38, .iload 6, 2, 0), (40, .invokevirtual 387, 3, 3), (43, .ldc2_w 396, 3, 0), (46, .aload_n 0, 1, 0), (47, .getfield 57, 3, 1)],
  [(50, .iconst 0, 1, 0), (51, .laload, 1, 1), (52, .lmul, 1, 0), (53, .ldc2_w 358, 3, 0), (56, .lsub, 1, 0), (57, .lstore 7, 2, 0), (59, .lload 7, 2, 0), (61, .lconst 0, 1, 0), (62, .lcmp, 1, 2), (63, .ifCond .ge 8, 3, 2)],
  [(66, .lload 7, 2, 0), (68, .lneg, 1, 0), (69, .lstore 7, 2, 0), (71, .iload_n 3, 1, 0), (72, .iconst (-1), 1, 0), (73, .if_icmp .eq 14, 3, 2), (76, .lload 7, 2, 0), (78, .lload 4, 2, 0)],
  [(80, .lcmp, 1, 2), (81, .ifCond .lt 6, 3, 2), (84, .goto 10, 3, 2), (87, .iload 6, 2, 0), (89, .istore_n 3, 1, 0), (90, .lload 7, 2, 0), (92, .lstore 4, 2, 0), (94, .iinc 6 1, 3, 0)],
  [(97, .goto (-84), 3, 2), (100, .iload_n 3, 1, 0), (101, .ireturn, 1, 6)]]
theorem nn_d308 : ab_dtok prog_14_method_106_code nn_dt308 = true := dw_ok (by decide +kernel)
def nn_dt309 : ab_DT := [[(0, .aload_n 0, 1, 0), (1, .iconst 0, 1, 0), (2, .putfield 100, 3, 1), (5, .aload_n 0, 1, 0), (6, .iload_n 1, 1, 0), (7, .iload_n 2, 1, 0), (8, .iload_n 3, 1, 0), (9, .invokevirtual 381, 3, 3), (12, .ifCond .ne 5, 3, 2), (15, .iconst (-1), 1, 0)],
  [(16, .ireturn, 1, 6), (17, .aload_n 0, 1, 0), (18, .iload_n 1, 1, 0), (19, .iload_n 2, 1, 0), (20, .iload_n 3, 1, 0), (21, .invokevirtual 387, 3, 3), (24, .aload_n 0, 1, 0), (25, .iconst 0, 1, 0), (26, .putfield 401, 3, 1), (29, .aload_n 0, 1, 0), (30, .iconst 1, 1, 0), (31, .invokestatic 158, 3, 3)],
  [(34, .invokevirtual 407, 3, 3), (37, .aload_n 0, 1, 0), (38, .bipush 32, 2, 0), (40, .invokevirtual 404, 3, 3), (43, .aload_n 0, 1, 0), (44, .aload_n 0, 1, 0), (45, .getfield 25, 3, 1)],
  [(48, .bipush 9, 2, 0), (50, .iload_n 3, 1, 0), (51, .iadd, 1, 0), (52, .laload, 1, 1), (53, .invokevirtual 407, 3, 3), (56, .aload_n 0, 1, 0), (57, .bipush 59, 2, 0), (59, .invokevirtual 404, 3, 3), (62, .iconst 0, 1, 0), (63, .istore 4, 2, 0)],
  [(65, .iconst 0, 1, 0), (66, .istore 5, 2, 0), (68, .iconst 0, 1, 0), (69, .istore 6, 2, 0), (71, .iload 6, 2, 0), (73, .ifCond .ne 103, 3, 2), (76, .aload_n 0, 1, 0), (77, .getfield 63, 3, 1)],
  [(80, .bipush 10, 2, 0), (82, .iload 5, 2, 0), (84, .imul, 1, 0), (85, .iload 4, 2, 0), (87, .iadd, 1, 0), (88, .iaload, 1, 1), (89, .istore 7, 2, 0), (91, .aload_n 0, 1, 0), (92, .aload_n 0, 1, 0), (93, .getfield 25, 3, 1)],
  [(96, .bipush 15, 2, 0), (98, .iload 5, 2, 0), (100, .ifCond .ne 7, 3, 2), (103, .iload_n 1, 1, 0), (104, .goto 4, 3, 2), (107, .iload_n 2, 1, 0), (108, .iadd, 1, 0), (109, .laload, 1, 1), (110, .invokevirtual 407, 3, 3)],
  [(113, .aload_n 0, 1, 0), (114, .bipush 32, 2, 0), (116, .invokevirtual 404, 3, 3), (119, .iload 7, 2, 0), (121, .ifCond .ne 15, 3, 2), (124, .aload_n 0, 1, 0), (125, .bipush 6, 2, 0), (127, .invokestatic 158, 3, 3)],
  [(130, .invokevirtual 407, 3, 3), (133, .goto 12, 3, 2), (136, .aload_n 0, 1, 0), (137, .bipush 48, 2, 0), (139, .iload 7, 2, 0), (141, .iadd, 1, 0), (142, .invokevirtual 404, 3, 3)],
  [(145, .aload_n 0, 1, 0), (146, .bipush 59, 2, 0), (148, .invokevirtual 404, 3, 3), (151, .iload 7, 2, 0), (153, .ifCond .ne 7, 3, 2), (156, .iconst 1, 1, 0), (157, .goto 4, 3, 2)],
  [(160, .iconst 0, 1, 0), (161, .istore 6, 2, 0), (163, .iload 7, 2, 0), (165, .istore 4, 2, 0), (167, .iconst 1, 1, 0), (168, .iload 5, 2, 0), (170, .isub, 1, 0), (171, .istore 5, 2, 0), (173, .goto (-102), 3, 2)],
  [(176, .aload_n 0, 1, 0), (177, .getfield 401, 3, 1), (180, .ireturn, 1, 6)]]
theorem nn_d309 : ab_dtok prog_14_method_109_code nn_dt309 = true := dw_ok (by decide +kernel)
def nn_dt310 : ab_DT := [[(0, .iconst 0, 1, 0), (1, .istore_n 3, 1, 0), (2, .lload_n 1, 1, 0), (3, .lstore 4, 2, 0), (5, .lload 4, 2, 0), (7, .lconst 0, 1, 0), (8, .lcmp, 1, 2), (9, .ifCond .le 33, 3, 2), (12, .aload_n 0, 1, 0), (13, .getfield 72, 3, 1)],
  [(16, .iload_n 3, 1, 0), (17, .lload 4, 2, 0), (19, .ldc2_w 150, 3, 0), (22, .lrem, 1, 0), (23, .l2i, 1, 0), (24, .bipush 96, 2, 0), (26, .iadd, 1, 0), (27, .iastore, 1, 1), (28, .iinc 3 1, 3, 0), (31, .lload 4, 2, 0)],
  [(33, .ldc2_w 150, 3, 0), (36, .ldiv, 1, 0), (37, .lstore 4, 2, 0), (39, .goto (-34), 3, 2), (42, .iload_n 3, 1, 0), (43, .iconst 1, 1, 0), (44, .isub, 1, 0), (45, .istore 4, 2, 0), (47, .iload 4, 2, 0)],
  [(49, .ifCond .lt 20, 3, 2), (52, .aload_n 0, 1, 0), (53, .aload_n 0, 1, 0), (54, .getfield 72, 3, 1), (57, .iload 4, 2, 0), (59, .iaload, 1, 1), (60, .invokevirtual 404, 3, 3), (63, .iinc 4 (-1), 3, 0)],
  [(66, .goto (-19), 3, 2), (69, .return_, 1, 6)]]
theorem nn_d310 : ab_dtok prog_14_method_108_code nn_dt310 = true := dw_ok (by decide +kernel)
def nn_dt311 : ab_DT := [[(0, .aload_n 0, 1, 0), (1, .getfield 69, 3, 1), (4, .aload_n 0, 1, 0), (5, .getfield 401, 3, 1), (8, .iload_n 1, 1, 0), (9, .iastore, 1, 1), (10, .aload_n 0, 1, 0), (11, .dup, 1, 0), (12, .getfield 401, 3, 1), (15, .iconst 1, 1, 0)],
  [(16, .iadd, 1, 0), (17, .putfield 401, 3, 1), (20, .return_, 1, 6)]]
theorem nn_d311 : ab_dtok prog_14_method_107_code nn_dt311 = true := dw_ok (by decide +kernel)
def nn_dt312 : ab_DT := [[(0, .aload_n 0, 1, 0), (1, .iconst 0, 1, 0), (2, .putfield 100, 3, 1), (5, .aload_n 0, 1, 0), (6, .iload_n 1, 1, 0), (7, .invokevirtual 267, 3, 3), (10, .ifCond .ne 5, 3, 2), (13, .iconst (-1), 1, 0), (14, .ireturn, 1, 6), (15, .aload_n 0, 1, 0)],
  [(16, .iconst 0, 1, 0), (17, .putfield 401, 3, 1), (20, .iconst 0, 1, 0), (21, .istore_n 2, 1, 0), (22, .iload_n 2, 1, 0), (23, .iconst 2, 1, 0), (24, .aload_n 0, 1, 0), (25, .iload_n 1, 1, 0), (26, .invokevirtual 270, 3, 3), (29, .imul, 1, 0), (30, .if_icmp .ge 59, 3, 2)],
  [(33, .iload_n 2, 1, 0), (34, .ifCond .le 9, 3, 2), (37, .aload_n 0, 1, 0), (38, .bipush 32, 2, 0), (40, .invokevirtual 404, 3, 3), (43, .aload_n 0, 1, 0), (44, .iload_n 1, 1, 0), (45, .iload_n 2, 1, 0), (46, .iconst 2, 1, 0), (47, .idiv, 1, 0)],
  [(48, .iload_n 2, 1, 0), (49, .iconst 2, 1, 0), (50, .irem, 1, 0), (51, .invokevirtual 273, 3, 3), (54, .istore_n 3, 1, 0), (55, .iload_n 3, 1, 0), (56, .bipush 9, 2, 0), (58, .if_icmp .le 14, 3, 2), (61, .aload_n 0, 1, 0), (62, .bipush 48, 2, 0)],
  [(64, .iload_n 3, 1, 0), (65, .bipush 10, 2, 0), (67, .idiv, 1, 0), (68, .iadd, 1, 0), (69, .invokevirtual 404, 3, 3), (72, .aload_n 0, 1, 0), (73, .bipush 48, 2, 0), (75, .iload_n 3, 1, 0), (76, .bipush 10, 2, 0), (78, .irem, 1, 0), (79, .iadd, 1, 0)],
  [(80, .invokevirtual 404, 3, 3), (83, .iinc 2 1, 3, 0), (86, .goto (-64), 3, 2), (89, .aload_n 0, 1, 0), (90, .getfield 401, 3, 1), (93, .ireturn, 1, 6)]]
theorem nn_d312 : ab_dtok prog_14_method_110_code nn_dt312 = true := dw_ok (by decide +kernel)
def nn_dt313 : ab_DT := [[(0, .aload_n 0, 1, 0), (1, .iconst 0, 1, 0), (2, .putfield 100, 3, 1), (5, .iload_n 1, 1, 0), (6, .ifCond .lt 20, 3, 2), (9, .iload_n 1, 1, 0), (10, .aload_n 0, 1, 0), (11, .getfield 401, 3, 1), (14, .if_icmp .ge 12, 3, 2)],
  [(17, .aload_n 0, 1, 0), (18, .getfield 69, 3, 1), (21, .iload_n 1, 1, 0), (22, .iaload, 1, 1), (23, .goto 4, 3, 2), (26, .iconst (-1), 1, 0), (27, .ireturn, 1, 6)]]
theorem nn_d313 : ab_dtok prog_14_method_111_code nn_dt313 = true := dw_ok (by decide +kernel)
def nn_dt314 : ab_DT := [[(0, .aload_n 0, 1, 0), (1, .iconst 0, 1, 0), (2, .putfield 100, 3, 1), (5, .aload_n 0, 1, 0), (6, .getfield 258, 3, 1), (9, .ifCond .ne 5, 3, 2), (12, .iconst (-1), 1, 0), (13, .ireturn, 1, 6), (14, .aload_n 0, 1, 0), (15, .dup, 1, 0)],
  [(16, .getfield 258, 3, 1), (19, .iconst 1, 1, 0), (20, .isub, 1, 0), (21, .putfield 258, 3, 1), (24, .iconst 0, 1, 0), (25, .istore_n 1, 1, 0), (26, .iload_n 1, 1, 0), (27, .bipush 50, 2, 0), (29, .if_icmp .ge 33, 3, 2)],
  [(32, .aload_n 0, 1, 0), (33, .getfield 13, 3, 1), (36, .sipush 182, 3, 0), (39, .iload_n 1, 1, 0), (40, .iadd, 1, 0), (41, .aload_n 0, 1, 0), (42, .getfield 22, 3, 1), (45, .bipush 50, 2, 0), (47, .aload_n 0, 1, 0)],
  [(48, .getfield 258, 3, 1), (51, .imul, 1, 0), (52, .iload_n 1, 1, 0), (53, .iadd, 1, 0), (54, .iaload, 1, 1), (55, .iastore, 1, 1), (56, .iinc 1 1, 3, 0), (59, .goto (-33), 3, 2), (62, .aload_n 0, 1, 0), (63, .getfield 258, 3, 1)],
  [(66, .ireturn, 1, 6)]]
theorem nn_d314 : ab_dtok prog_14_method_113_code nn_dt314 = true := dw_ok (by decide +kernel)
def nn_dt315 : ab_DT := [[(0, .aload_n 0, 1, 0), (1, .iconst 0, 1, 0), (2, .putfield 100, 3, 1), (5, .aload_n 0, 1, 0), (6, .iload_n 1, 1, 0), (7, .invokevirtual 281, 3, 3), (10, .ifCond .eq 31, 3, 2), (13, .aload_n 0, 1, 0), (14, .iload_n 2, 1, 0), (15, .invokevirtual 267, 3, 3)],
  [(18, .ifCond .eq 23, 3, 2), (21, .iload_n 3, 1, 0), (22, .iconst 0, 1, 0), (23, .bipush 9, 2, 0), (25, .invokestatic 171, 3, 3), (28, .ifCond .eq 13, 3, 2), (31, .aload_n 0, 1, 0)],
  [(32, .iload_n 1, 1, 0), (33, .iload_n 2, 1, 0), (34, .invokevirtual 284, 3, 3), (37, .iload_n 3, 1, 0), (38, .if_icmp .ne 5, 3, 2), (41, .iconst 0, 1, 0), (42, .ireturn, 1, 6), (43, .aload_n 0, 1, 0), (44, .invokevirtual 411, 3, 3), (47, .aload_n 0, 1, 0)],
  [(48, .getfield 13, 3, 1), (51, .sipush 182, 3, 0), (54, .bipush 9, 2, 0), (56, .iload_n 1, 1, 0), (57, .imul, 1, 0), (58, .iadd, 1, 0), (59, .iload_n 2, 1, 0), (60, .iadd, 1, 0), (61, .iload_n 3, 1, 0), (62, .iastore, 1, 1), (63, .iconst 1, 1, 0)],
  [(64, .ireturn, 1, 6)]]
theorem nn_d315 : ab_dtok prog_14_method_114_code nn_dt315 = true := dw_ok (by decide +kernel)
def nn_dt316 : ab_DT := [[(0, .aload_n 0, 1, 0), (1, .getfield 258, 3, 1), (4, .bipush 8, 2, 0), (6, .if_icmp .ne 44, 3, 2), (9, .bipush 50, 2, 0), (11, .istore_n 1, 1, 0), (12, .iload_n 1, 1, 0), (13, .sipush 400, 3, 0)],
  [(16, .if_icmp .ge 24, 3, 2), (19, .aload_n 0, 1, 0), (20, .getfield 22, 3, 1), (23, .iload_n 1, 1, 0), (24, .bipush 50, 2, 0), (26, .isub, 1, 0), (27, .aload_n 0, 1, 0), (28, .getfield 22, 3, 1), (31, .iload_n 1, 1, 0)],
  [(32, .iaload, 1, 1), (33, .iastore, 1, 1), (34, .iinc 1 1, 3, 0), (37, .goto (-25), 3, 2), (40, .aload_n 0, 1, 0), (41, .dup, 1, 0), (42, .getfield 258, 3, 1), (45, .iconst 1, 1, 0), (46, .isub, 1, 0), (47, .putfield 258, 3, 1)],
  [(50, .iconst 0, 1, 0), (51, .istore_n 1, 1, 0), (52, .iload_n 1, 1, 0), (53, .bipush 50, 2, 0), (55, .if_icmp .ge 33, 3, 2), (58, .aload_n 0, 1, 0), (59, .getfield 22, 3, 1), (62, .bipush 50, 2, 0)],
  [(64, .aload_n 0, 1, 0), (65, .getfield 258, 3, 1), (68, .imul, 1, 0), (69, .iload_n 1, 1, 0), (70, .iadd, 1, 0), (71, .aload_n 0, 1, 0), (72, .getfield 13, 3, 1), (75, .sipush 182, 3, 0), (78, .iload_n 1, 1, 0), (79, .iadd, 1, 0)],
  [(80, .iaload, 1, 1), (81, .iastore, 1, 1), (82, .iinc 1 1, 3, 0), (85, .goto (-33), 3, 2), (88, .aload_n 0, 1, 0), (89, .dup, 1, 0), (90, .getfield 258, 3, 1), (93, .iconst 1, 1, 0), (94, .iadd, 1, 0), (95, .putfield 258, 3, 1)],
  [(98, .return_, 1, 6)]]
theorem nn_d316 : ab_dtok prog_14_method_112_code nn_dt316 = true := dw_ok (by decide +kernel)
def nn_dt317 : ab_DT := [[(0, .aload_n 0, 1, 0), (1, .iconst 0, 1, 0), (2, .putfield 100, 3, 1), (5, .aload_n 0, 1, 0), (6, .iload_n 1, 1, 0), (7, .invokevirtual 281, 3, 3), (10, .ifCond .eq 27, 3, 2), (13, .iload_n 2, 1, 0), (14, .iconst 0, 1, 0), (15, .bipush 9, 2, 0)],
  [(17, .invokestatic 171, 3, 3), (20, .ifCond .eq 17, 3, 2), (23, .aload_n 0, 1, 0), (24, .getfield 13, 3, 1), (27, .sipush 227, 3, 0), (30, .iload_n 1, 1, 0), (31, .iadd, 1, 0)],
  [(32, .iaload, 1, 1), (33, .iload_n 2, 1, 0), (34, .if_icmp .ne 5, 3, 2), (37, .iconst 0, 1, 0), (38, .ireturn, 1, 6), (39, .aload_n 0, 1, 0), (40, .invokevirtual 411, 3, 3), (43, .aload_n 0, 1, 0), (44, .getfield 13, 3, 1), (47, .sipush 227, 3, 0)],
  [(50, .iload_n 1, 1, 0), (51, .iadd, 1, 0), (52, .iload_n 2, 1, 0), (53, .iastore, 1, 1), (54, .iconst 1, 1, 0), (55, .ireturn, 1, 6)]]
theorem nn_d317 : ab_dtok prog_14_method_115_code nn_dt317 = true := dw_ok (by decide +kernel)
def nn_dt318 : ab_DT := [[(0, .aload_n 0, 1, 0), (1, .iconst 0, 1, 0), (2, .putfield 100, 3, 1), (5, .aload_n 0, 1, 0), (6, .iload_n 1, 1, 0), (7, .invokevirtual 281, 3, 3), (10, .ifCond .eq 11, 3, 2), (13, .aload_n 0, 1, 0), (14, .iload_n 2, 1, 0), (15, .invokevirtual 281, 3, 3)],
  [(18, .ifCond .ne 5, 3, 2), (21, .iconst (-1), 1, 0), (22, .ireturn, 1, 6), (23, .iconst 0, 1, 0), (24, .istore_n 3, 1, 0), (25, .iconst 0, 1, 0), (26, .istore 4, 2, 0), (28, .iload 4, 2, 0), (30, .aload_n 0, 1, 0), (31, .invokevirtual 261, 3, 3)],
  [(34, .if_icmp .ge 29, 3, 2), (37, .aload_n 0, 1, 0), (38, .iload_n 1, 1, 0), (39, .iload 4, 2, 0), (41, .invokevirtual 284, 3, 3), (44, .aload_n 0, 1, 0), (45, .iload_n 2, 1, 0), (46, .iload 4, 2, 0)],
  [(48, .invokevirtual 284, 3, 3), (51, .if_icmp .eq 6, 3, 2), (54, .iinc 3 1, 3, 0), (57, .iinc 4 1, 3, 0), (60, .goto (-32), 3, 2), (63, .iload_n 3, 1, 0)],
  [(64, .ifCond .ne 5, 3, 2), (67, .iconst 0, 1, 0), (68, .ireturn, 1, 6), (69, .aload_n 0, 1, 0), (70, .invokevirtual 411, 3, 3), (73, .iconst 0, 1, 0), (74, .istore 4, 2, 0), (76, .iload 4, 2, 0), (78, .aload_n 0, 1, 0), (79, .invokevirtual 261, 3, 3)],
  [(82, .if_icmp .ge 32, 3, 2), (85, .aload_n 0, 1, 0), (86, .getfield 13, 3, 1), (89, .sipush 182, 3, 0), (92, .bipush 9, 2, 0), (94, .iload_n 1, 1, 0), (95, .imul, 1, 0)],
  [(96, .iadd, 1, 0), (97, .iload 4, 2, 0), (99, .iadd, 1, 0), (100, .aload_n 0, 1, 0), (101, .iload_n 2, 1, 0), (102, .iload 4, 2, 0), (104, .invokevirtual 284, 3, 3), (107, .iastore, 1, 1), (108, .iinc 4 1, 3, 0), (111, .goto (-35), 3, 2)],
  [(114, .iload_n 3, 1, 0), (115, .ireturn, 1, 6)]]
theorem nn_d318 : ab_dtok prog_14_method_116_code nn_dt318 = true := dw_ok (by decide +kernel)
def nn_dt319 : ab_DT := [[(0, .iload_n 1, 1, 0), (1, .iload_n 2, 1, 0), (2, .iload_n 3, 1, 0), (3, .invokestatic 420, 3, 3), (6, .ifCond .eq 13, 3, 2), (9, .iload 4, 2, 0), (11, .iconst 0, 1, 0), (12, .iconst 1, 1, 0), (13, .invokestatic 171, 3, 3)],
  [(16, .ifCond .ne 8, 3, 2), (19, .aload_n 0, 1, 0), (20, .invokevirtual 345, 3, 3), (23, .lreturn, 1, 6), (24, .aload_n 0, 1, 0), (25, .iload_n 3, 1, 0), (26, .iconst (-1), 1, 0), (27, .invokevirtual 423, 3, 3), (30, .aload_n 0, 1, 0), (31, .aload_n 0, 1, 0)],
  [(32, .getfield 75, 3, 1), (35, .iconst 5, 1, 0), (36, .iload_n 1, 1, 0), (37, .imul, 1, 0), (38, .iload_n 2, 1, 0), (39, .iadd, 1, 0), (40, .laload, 1, 1), (41, .ldc2_w 414, 3, 0), (44, .iload 4, 2, 0), (46, .invokevirtual 351, 3, 3)],
  [(49, .lreturn, 1, 6)]]
theorem nn_d319 : ab_dtok prog_14_method_120_code nn_dt319 = true := dw_ok (by decide +kernel)
def nn_DT_280 : List ab_DT := [nn_dt280, nn_dt281, nn_dt282, nn_dt283, nn_dt284, nn_dt285, nn_dt286, nn_dt287, nn_dt288, nn_dt289, nn_dt290, nn_dt291, nn_dt292, nn_dt293, nn_dt294, nn_dt295, nn_dt296, nn_dt297, nn_dt298, nn_dt299, nn_dt300, nn_dt301, nn_dt302, nn_dt303, nn_dt304, nn_dt305, nn_dt306, nn_dt307, nn_dt308, nn_dt309, nn_dt310, nn_dt311, nn_dt312, nn_dt313, nn_dt314, nn_dt315, nn_dt316, nn_dt317, nn_dt318, nn_dt319]
theorem nn_DT_280_ok : ab_dtP nn_MT_280 nn_DT_280 := ⟨nn_d280, nn_d281, nn_d282, nn_d283, nn_d284, nn_d285, nn_d286, nn_d287, nn_d288, nn_d289, nn_d290, nn_d291, nn_d292, nn_d293, nn_d294, nn_d295, nn_d296, nn_d297, nn_d298, nn_d299, nn_d300, nn_d301, nn_d302, nn_d303, nn_d304, nn_d305, nn_d306, nn_d307, nn_d308, nn_d309, nn_d310, nn_d311, nn_d312, nn_d313, nn_d314, nn_d315, nn_d316, nn_d317, nn_d318, nn_d319, trivial⟩
end
