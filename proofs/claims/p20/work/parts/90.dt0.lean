def nn_dt0 : ab_DT := [[(0, .aload_n 0, 1, 0), (1, .getfield 10, 3, 1), (4, .invokevirtual 108, 3, 3), (7, .ifCond .ne 5, 3, 2), (10, .iconst (-1), 1, 0), (11, .ireturn, 1, 6), (12, .aload_n 0, 1, 0), (13, .getfield 10, 3, 1)],
  [(16, .iload_n 1, 1, 0), (17, .invokevirtual 112, 3, 3), (20, .aload_n 0, 1, 0), (21, .getfield 10, 3, 1), (24, .iload_n 2, 1, 0), (25, .invokevirtual 112, 3, 3), (28, .aload_n 0, 1, 0), (29, .getfield 10, 3, 1)],
  [(32, .iload_n 3, 1, 0), (33, .invokevirtual 112, 3, 3), (36, .aload_n 0, 1, 0), (37, .getfield 10, 3, 1), (40, .iload 4, 2, 0), (42, .invokevirtual 112, 3, 3), (45, .aload_n 0, 1, 0), (46, .getfield 10, 3, 1)],
  [(49, .iload 5, 2, 0), (51, .invokevirtual 112, 3, 3), (54, .aload_n 0, 1, 0), (55, .getfield 10, 3, 1), (58, .getfield 116, 3, 1), (61, .ireturn, 1, 6)]]
theorem nn_d0 : ab_dtok prog_1_method_2_code nn_dt0 = true := dw_ok (by decide +kernel)
def nn_dt1 : ab_DT := [[(0, .aload_n 0, 1, 0), (1, .getfield 15, 3, 1), (4, .bipush 20, 2, 0), (6, .iadd, 1, 0), (7, .sipush 940, 3, 0), (10, .if_icmp .gt 7, 3, 2), (13, .iconst 1, 1, 0), (14, .goto 4, 3, 2)],
  [(17, .iconst 0, 1, 0), (18, .ireturn, 1, 6)]]
theorem nn_d1 : ab_dtok prog_10_method_2_code nn_dt1 = true := dw_ok (by decide +kernel)
def nn_dt2 : ab_DT := [[(0, .bipush 24, 2, 0), (2, .istore_n 2, 1, 0), (3, .iload_n 2, 1, 0), (4, .ifCond .lt 51, 3, 2), (7, .aload_n 0, 1, 0), (8, .getfield 15, 3, 1), (11, .ifCond .lt 38, 3, 2), (14, .aload_n 0, 1, 0), (15, .getfield 15, 3, 1)],
  [(18, .aload_n 0, 1, 0), (19, .getfield 11, 3, 1), (22, .arraylength, 1, 1), (23, .if_icmp .ge 26, 3, 2), (26, .aload_n 0, 1, 0), (27, .getfield 11, 3, 1), (30, .aload_n 0, 1, 0), (31, .getfield 15, 3, 1)],
  [(34, .iload_n 1, 1, 0), (35, .iload_n 2, 1, 0), (36, .ishr, 1, 0), (37, .i2b, 1, 0), (38, .bastore, 1, 1), (39, .aload_n 0, 1, 0), (40, .dup, 1, 0), (41, .getfield 15, 3, 1), (44, .iconst 1, 1, 0), (45, .iadd, 1, 0), (46, .putfield 15, 3, 1)],
  [(49, .iinc 2 (-8), 3, 0), (52, .goto (-49), 3, 2), (55, .return_, 1, 6)]]
theorem nn_d2 : ab_dtok prog_10_method_3_code nn_dt2 = true := dw_ok (by decide +kernel)
def nn_dt3 : ab_DT := [[(0, .iload_n 1, 1, 0), (1, .ifCond .lt 14, 3, 2), (4, .iload_n 1, 1, 0), (5, .aload_n 0, 1, 0), (6, .getfield 10, 3, 1), (9, .getfield 116, 3, 1), (12, .if_icmp .le 5, 3, 2), (15, .iconst 0, 1, 0)],
  [(16, .ireturn, 1, 6), (17, .aload_n 0, 1, 0), (18, .getfield 10, 3, 1), (21, .iload_n 1, 1, 0), (22, .putfield 116, 3, 1), (25, .iconst 1, 1, 0), (26, .ireturn, 1, 6)]]
theorem nn_d3 : ab_dtok prog_1_method_3_code nn_dt3 = true := dw_ok (by decide +kernel)
def nn_dt4 : ab_DT := [[(0, .aload_n 0, 1, 0), (1, .getfield 34, 3, 1), (4, .invokevirtual 119, 3, 3), (7, .istore_n 1, 1, 0), (8, .aload_n 0, 1, 0), (9, .getfield 10, 3, 1), (12, .iconst 0, 1, 0), (13, .putfield 116, 3, 1)],
  [(16, .iload_n 1, 1, 0), (17, .ifCond .ne 13, 3, 2), (20, .iconst (-1), 1, 0), (21, .aload_n 0, 1, 0), (22, .getfield 10, 3, 1), (25, .getfield 122, 3, 1), (28, .isub, 1, 0), (29, .ireturn, 1, 6), (30, .aload_n 0, 1, 0), (31, .dup, 1, 0)],
  [(32, .getfield 104, 3, 1), (35, .iconst 1, 1, 0), (36, .iadd, 1, 0), (37, .putfield 104, 3, 1), (40, .aload_n 0, 1, 0), (41, .getfield 19, 3, 1), (44, .aload_n 0, 1, 0), (45, .getfield 34, 3, 1)],
  [(48, .getfield 125, 3, 1), (51, .invokevirtual 128, 3, 3), (54, .aload_n 0, 1, 0), (55, .getfield 19, 3, 1), (58, .aload_n 0, 1, 0), (59, .getfield 104, 3, 1), (62, .putfield 132, 3, 1)],
  [(65, .aload_n 0, 1, 0), (66, .getfield 76, 3, 1), (69, .iconst 0, 1, 0), (70, .putfield 135, 3, 1), (73, .aload_n 0, 1, 0), (74, .getfield 34, 3, 1), (77, .getfield 136, 3, 1)],
  [(80, .ireturn, 1, 6)]]
theorem nn_d4 : ab_dtok prog_1_method_4_code nn_dt4 = true := dw_ok (by decide +kernel)
def nn_dt5 : ab_DT := [[(0, .aload_n 0, 1, 0), (1, .getfield 12, 3, 1), (4, .invokevirtual 26, 3, 3), (7, .aload_n 0, 1, 0), (8, .getfield 18, 3, 1), (11, .iconst 0, 1, 0), (12, .invokestatic 29, 3, 3), (15, .aload_n 0, 1, 0)],
  [(16, .iconst 0, 1, 0), (17, .putfield 33, 3, 1), (20, .aload_n 0, 1, 0), (21, .iconst 0, 1, 0), (22, .putfield 37, 3, 1), (25, .aload_n 0, 1, 0), (26, .iconst 0, 1, 0), (27, .putfield 41, 3, 1), (30, .aload_n 0, 1, 0), (31, .getfield 22, 3, 1)],
  [(34, .sipush 900, 3, 0), (37, .invokevirtual 44, 3, 3), (40, .iconst 0, 1, 0), (41, .istore_n 1, 1, 0), (42, .iload_n 1, 1, 0), (43, .sipush 900, 3, 0), (46, .if_icmp .ge 50, 3, 2)],
  [(49, .aload_n 0, 1, 0), (50, .getfield 22, 3, 1), (53, .getfield 50, 3, 1), (56, .ifCond .eq 40, 3, 2), (59, .aload_n 0, 1, 0), (60, .invokevirtual 53, 3, 3), (63, .ifCond .eq 15, 3, 2)],
  [(66, .aload_n 0, 1, 0), (67, .getfield 22, 3, 1), (70, .bipush 59, 2, 0), (72, .invokevirtual 57, 3, 3), (75, .ifCond .ne 5, 3, 2), (78, .iconst 0, 1, 0), (79, .ireturn, 1, 6)],
  [(80, .aload_n 0, 1, 0), (81, .dup, 1, 0), (82, .getfield 41, 3, 1), (85, .iconst 1, 1, 0), (86, .iadd, 1, 0), (87, .putfield 41, 3, 1), (90, .iinc 1 1, 3, 0), (93, .goto (-51), 3, 2)],
  [(96, .aload_n 0, 1, 0), (97, .getfield 12, 3, 1), (100, .invokevirtual 61, 3, 3), (103, .iconst 1, 1, 0), (104, .ireturn, 1, 6)]]
theorem nn_d5 : ab_dtok prog_9_method_2_code nn_dt5 = true := dw_ok (by decide +kernel)
def nn_dt6 : ab_DT := [[(0, .aload_n 0, 1, 0), (1, .iconst 0, 1, 0), (2, .putfield 54, 3, 1), (5, .aload_n 0, 1, 0), (6, .iconst 0, 1, 0), (7, .putfield 57, 3, 1), (10, .aload_n 0, 1, 0), (11, .iconst 0, 1, 0), (12, .putfield 60, 3, 1), (15, .aload_n 0, 1, 0)],
  [(16, .bipush 9, 2, 0), (18, .putfield 50, 3, 1), (21, .aload_n 0, 1, 0), (22, .getfield 27, 3, 1), (25, .iconst 0, 1, 0), (26, .invokestatic 63, 3, 3), (29, .aload_n 0, 1, 0), (30, .getfield 30, 3, 1)],
  [(33, .iconst 5, 1, 0), (34, .invokestatic 63, 3, 3), (37, .aload_n 0, 1, 0), (38, .getfield 46, 3, 1), (41, .invokevirtual 67, 3, 3), (44, .return_, 1, 6)]]
theorem nn_d6 : ab_dtok prog_8_method_2_code nn_dt6 = true := dw_ok (by decide +kernel)
def nn_dt7 : ab_DT := [[(0, .iconst 0, 1, 0), (1, .istore_n 2, 1, 0), (2, .iload_n 2, 1, 0), (3, .aload_n 0, 1, 0), (4, .arraylength, 1, 1), (5, .if_icmp .ge 13, 3, 2), (8, .aload_n 0, 1, 0), (9, .iload_n 2, 1, 0), (10, .iload_n 1, 1, 0), (11, .iastore, 1, 1), (12, .iinc 2 1, 3, 0), (15, .goto (-13), 3, 2)],
  [(18, .return_, 1, 6)]]
theorem nn_d7 : ab_dtok prog_1_method_90_code nn_dt7 = true := dw_ok (by decide +kernel)
def nn_dt8 : ab_DT := [[(0, .aload_n 0, 1, 0), (1, .iconst 0, 1, 0), (2, .putfield 21, 3, 1), (5, .aload_n 0, 1, 0), (6, .iconst 0, 1, 0), (7, .putfield 25, 3, 1), (10, .return_, 1, 6)]]
theorem nn_d8 : ab_dtok prog_7_method_2_code nn_dt8 = true := dw_ok (by decide +kernel)
def nn_dt9 : ab_DT := [[(0, .aload_n 0, 1, 0), (1, .iload_n 1, 1, 0), (2, .putfield 19, 3, 1), (5, .aload_n 0, 1, 0), (6, .iconst 0, 1, 0), (7, .putfield 22, 3, 1), (10, .aload_n 0, 1, 0), (11, .iconst 0, 1, 0), (12, .putfield 25, 3, 1), (15, .aload_n 0, 1, 0)],
  [(16, .iconst 0, 1, 0), (17, .putfield 28, 3, 1), (20, .aload_n 0, 1, 0), (21, .invokevirtual 31, 3, 3), (24, .return_, 1, 6)]]
theorem nn_d9 : ab_dtok prog_10_method_4_code nn_dt9 = true := dw_ok (by decide +kernel)
def nn_dt10 : ab_DT := [[(0, .aload_n 0, 1, 0), (1, .getfield 22, 3, 1), (4, .aload_n 0, 1, 0), (5, .getfield 15, 3, 1), (8, .if_icmp .ge 30, 3, 2), (11, .aload_n 0, 1, 0), (12, .aload_n 0, 1, 0), (13, .getfield 22, 3, 1)],
  [(16, .invokevirtual 34, 3, 3), (19, .invokestatic 38, 3, 3), (22, .ifCond .eq 16, 3, 2), (25, .aload_n 0, 1, 0), (26, .dup, 1, 0), (27, .getfield 22, 3, 1), (30, .iconst 1, 1, 0), (31, .iadd, 1, 0)],
  [(32, .putfield 22, 3, 1), (35, .goto (-35), 3, 2), (38, .aload_n 0, 1, 0), (39, .aconst_null, 1, 0), (40, .putfield 42, 3, 1), (43, .aload_n 0, 1, 0), (44, .getfield 15, 3, 1), (47, .aload_n 0, 1, 0)],
  [(48, .getfield 19, 3, 1), (51, .if_icmp .le 28, 3, 2), (54, .aload_n 0, 1, 0), (55, .getfield 22, 3, 1), (58, .aload_n 0, 1, 0), (59, .getfield 19, 3, 1), (62, .if_icmp .lt 17, 3, 2)],
  [(65, .aload_n 0, 1, 0), (66, .aload_n 0, 1, 0), (67, .getfield 19, 3, 1), (70, .putfield 46, 3, 1), (73, .aload_n 0, 1, 0), (74, .iconst 1, 1, 0), (75, .putfield 49, 3, 1), (78, .return_, 1, 6), (79, .aload_n 0, 1, 0)],
  [(80, .aload_n 0, 1, 0), (81, .getfield 22, 3, 1), (84, .putfield 46, 3, 1), (87, .aload_n 0, 1, 0), (88, .aload_n 0, 1, 0), (89, .getfield 22, 3, 1), (92, .invokevirtual 34, 3, 3), (95, .istore_n 1, 1, 0)],
  [(96, .aload_n 0, 1, 0), (97, .getfield 22, 3, 1), (100, .aload_n 0, 1, 0), (101, .getfield 15, 3, 1), (104, .if_icmp .lt 11, 3, 2), (107, .aload_n 0, 1, 0), (108, .iconst 0, 1, 0), (109, .putfield 49, 3, 1)],
  [(112, .goto 50, 3, 2), (115, .iload_n 1, 1, 0), (116, .invokestatic 52, 3, 3), (119, .ifCond .ne 10, 3, 2), (122, .iload_n 1, 1, 0), (123, .invokestatic 55, 3, 3), (126, .ifCond .eq 10, 3, 2)],
  [(129, .aload_n 0, 1, 0), (130, .invokevirtual 58, 3, 3), (133, .goto 29, 3, 2), (136, .aload_n 0, 1, 0), (137, .iload_n 1, 1, 0), (138, .invokestatic 61, 3, 3), (141, .ifCond .eq 7, 3, 2)],
  [(144, .iload_n 1, 1, 0), (145, .goto 4, 3, 2), (148, .iconst 1, 1, 0), (149, .putfield 49, 3, 1), (152, .aload_n 0, 1, 0), (153, .dup, 1, 0), (154, .getfield 22, 3, 1), (157, .iconst 1, 1, 0), (158, .iadd, 1, 0), (159, .putfield 22, 3, 1)],
  [(162, .return_, 1, 6)]]
theorem nn_d10 : ab_dtok prog_10_method_5_code nn_dt10 = true := dw_ok (by decide +kernel)
def nn_dt11 : ab_DT := [[(0, .iload_n 1, 1, 0), (1, .ifCond .lt 33, 3, 2), (4, .iload_n 1, 1, 0), (5, .aload_n 0, 1, 0), (6, .getfield 15, 3, 1), (9, .if_icmp .ge 25, 3, 2), (12, .iload_n 1, 1, 0), (13, .aload_n 0, 1, 0), (14, .getfield 11, 3, 1)],
  [(17, .arraylength, 1, 1), (18, .if_icmp .ge 16, 3, 2), (21, .aload_n 0, 1, 0), (22, .getfield 11, 3, 1), (25, .iload_n 1, 1, 0), (26, .baload, 1, 1), (27, .sipush 255, 3, 0), (30, .iand, 1, 0), (31, .goto 4, 3, 2)],
  [(34, .iconst 0, 1, 0), (35, .ireturn, 1, 6)]]
theorem nn_d11 : ab_dtok prog_10_method_8_code nn_dt11 = true := dw_ok (by decide +kernel)
def nn_dt12 : ab_DT := [[(0, .iload_n 0, 1, 0), (1, .bipush 32, 2, 0), (3, .if_icmp .eq 9, 3, 2), (6, .iload_n 0, 1, 0), (7, .bipush 10, 2, 0), (9, .if_icmp .ne 7, 3, 2), (12, .iconst 1, 1, 0), (13, .goto 4, 3, 2)],
  [(16, .iconst 0, 1, 0), (17, .ireturn, 1, 6)]]
theorem nn_d12 : ab_dtok prog_10_method_16_code nn_dt12 = true := dw_ok (by decide +kernel)
def nn_dt13 : ab_DT := [[(0, .iload_n 0, 1, 0), (1, .bipush 97, 2, 0), (3, .if_icmp .lt 13, 3, 2), (6, .iload_n 0, 1, 0), (7, .bipush 122, 2, 0), (9, .if_icmp .gt 7, 3, 2), (12, .iconst 1, 1, 0), (13, .goto 4, 3, 2)],
  [(16, .iconst 0, 1, 0), (17, .ireturn, 1, 6)]]
theorem nn_d13 : ab_dtok prog_10_method_17_code nn_dt13 = true := dw_ok (by decide +kernel)
def nn_dt14 : ab_DT := [[(0, .iload_n 0, 1, 0), (1, .bipush 48, 2, 0), (3, .if_icmp .lt 13, 3, 2), (6, .iload_n 0, 1, 0), (7, .bipush 57, 2, 0), (9, .if_icmp .gt 7, 3, 2), (12, .iconst 1, 1, 0), (13, .goto 4, 3, 2)],
  [(16, .iconst 0, 1, 0), (17, .ireturn, 1, 6)]]
theorem nn_d14 : ab_dtok prog_10_method_18_code nn_dt14 = true := dw_ok (by decide +kernel)
def nn_dt15 : ab_DT := [[(0, .iconst 0, 1, 0), (1, .istore_n 1, 1, 0), (2, .iconst 0, 1, 0), (3, .istore_n 2, 1, 0), (4, .aload_n 0, 1, 0), (5, .lconst 0, 1, 0), (6, .putfield 64, 3, 1), (9, .aload_n 0, 1, 0), (10, .iconst 0, 1, 0), (11, .putfield 68, 3, 1), (14, .aload_n 0, 1, 0), (15, .aload_n 0, 1, 0)],
  [(16, .getfield 22, 3, 1), (19, .invokevirtual 34, 3, 3), (22, .istore_n 3, 1, 0), (23, .aload_n 0, 1, 0), (24, .getfield 22, 3, 1), (27, .aload_n 0, 1, 0), (28, .getfield 15, 3, 1), (31, .if_icmp .ge 83, 3, 2)],
  [(34, .iload_n 3, 1, 0), (35, .invokestatic 52, 3, 3), (38, .ifCond .ne 10, 3, 2), (41, .iload_n 3, 1, 0), (42, .invokestatic 55, 3, 3), (45, .ifCond .eq 69, 3, 2)],
  [(48, .iload_n 3, 1, 0), (49, .invokestatic 52, 3, 3), (52, .ifCond .eq 21, 3, 2), (55, .iinc 1 1, 3, 0), (58, .aload_n 0, 1, 0), (59, .aload_n 0, 1, 0), (60, .getfield 64, 3, 1), (63, .iload_n 3, 1, 0)],
  [(64, .invokestatic 71, 3, 3), (67, .putfield 64, 3, 1), (70, .goto 22, 3, 2), (73, .iinc 2 1, 3, 0), (76, .aload_n 0, 1, 0), (77, .aload_n 0, 1, 0), (78, .getfield 68, 3, 1)],
  [(81, .bipush 10, 2, 0), (83, .imul, 1, 0), (84, .iload_n 3, 1, 0), (85, .iadd, 1, 0), (86, .bipush 48, 2, 0), (88, .isub, 1, 0), (89, .putfield 68, 3, 1), (92, .aload_n 0, 1, 0), (93, .dup, 1, 0), (94, .getfield 22, 3, 1)],
  [(97, .iconst 1, 1, 0), (98, .iadd, 1, 0), (99, .putfield 22, 3, 1), (102, .aload_n 0, 1, 0), (103, .aload_n 0, 1, 0), (104, .getfield 22, 3, 1), (107, .invokevirtual 34, 3, 3), (110, .istore_n 3, 1, 0), (111, .goto (-88), 3, 2)],
  [(114, .aload_n 0, 1, 0), (115, .iconst 1, 1, 0), (116, .putfield 49, 3, 1), (119, .iload_n 2, 1, 0), (120, .ifCond .ne 21, 3, 2), (123, .iload_n 1, 1, 0), (124, .bipush 7, 2, 0), (126, .if_icmp .gt 15, 3, 2)],
  [(129, .aload_n 0, 1, 0), (130, .iconst 2, 1, 0), (131, .putfield 49, 3, 1), (134, .aload_n 0, 1, 0), (135, .invokevirtual 75, 3, 3), (138, .goto 17, 3, 2), (141, .iload_n 1, 1, 0), (142, .ifCond .ne 13, 3, 2)],
  [(145, .iload_n 2, 1, 0), (146, .iconst 2, 1, 0), (147, .if_icmp .gt 8, 3, 2), (150, .aload_n 0, 1, 0), (151, .iconst 3, 1, 0), (152, .putfield 49, 3, 1), (155, .return_, 1, 6)]]
theorem nn_d15 : ab_dtok prog_10_method_6_code nn_dt15 = true := dw_ok (by decide +kernel)
def nn_dt16 : ab_DT := [[(0, .lload_n 0, 1, 0), (1, .ldc2_w 94, 3, 0), (4, .lmul, 1, 0), (5, .iload_n 2, 1, 0), (6, .i2l, 1, 0), (7, .ladd, 1, 0), (8, .ldc2_w 96, 3, 0), (11, .lsub, 1, 0), (12, .lconst 1, 1, 0), (13, .ladd, 1, 0), (14, .lreturn, 1, 6)]]
theorem nn_d16 : ab_dtok prog_10_method_15_code nn_dt16 = true := dw_ok (by decide +kernel)
def nn_dt17 : ab_DT := [[(0, .iconst 0, 1, 0), (1, .istore_n 1, 1, 0), (2, .iload_n 1, 1, 0), (3, .getstatic 78, 3, 4), (6, .arraylength, 1, 1), (7, .if_icmp .ge 34, 3, 2), (10, .getstatic 78, 3, 4), (13, .iload_n 1, 1, 0), (14, .aaload, 1, 4), (15, .getfield 82, 3, 1)],
  [(18, .aload_n 0, 1, 0), (19, .getfield 64, 3, 1), (22, .lcmp, 1, 2), (23, .ifCond .ne 12, 3, 2), (26, .aload_n 0, 1, 0), (27, .getstatic 78, 3, 4), (30, .iload_n 1, 1, 0), (31, .aaload, 1, 4)],
  [(32, .putfield 42, 3, 1), (35, .iinc 1 1, 3, 0), (38, .goto (-36), 3, 2), (41, .return_, 1, 6)]]
theorem nn_d17 : ab_dtok prog_10_method_7_code nn_dt17 = true := dw_ok (by decide +kernel)
def nn_dt18 : ab_DT := [[(0, .iload_n 0, 1, 0), (1, .bipush 59, 2, 0), (3, .if_icmp .eq 33, 3, 2), (6, .iload_n 0, 1, 0), (7, .bipush 60, 2, 0), (9, .if_icmp .lt 9, 3, 2), (12, .iload_n 0, 1, 0), (13, .bipush 62, 2, 0), (15, .if_icmp .le 21, 3, 2)],
  [(18, .iload_n 0, 1, 0), (19, .bipush 40, 2, 0), (21, .if_icmp .eq 15, 3, 2), (24, .iload_n 0, 1, 0), (25, .bipush 41, 2, 0), (27, .if_icmp .eq 9, 3, 2), (30, .iload_n 0, 1, 0), (31, .bipush 46, 2, 0)],
  [(33, .if_icmp .ne 7, 3, 2), (36, .iconst 1, 1, 0), (37, .goto 4, 3, 2), (40, .iconst 0, 1, 0), (41, .ireturn, 1, 6)]]
theorem nn_d18 : ab_dtok prog_10_method_19_code nn_dt18 = true := dw_ok (by decide +kernel)
def nn_dt19 : ab_DT := [[(0, .aload_n 0, 1, 0), (1, .getfield 22, 3, 1), (4, .getstatic 64, 3, 4), (7, .invokevirtual 70, 3, 3), (10, .ifCond .eq 8, 3, 2), (13, .aload_n 0, 1, 0), (14, .invokevirtual 74, 3, 3)],
  [(17, .ireturn, 1, 6), (18, .aload_n 0, 1, 0), (19, .getfield 22, 3, 1), (22, .getstatic 77, 3, 4), (25, .invokevirtual 70, 3, 3), (28, .ifCond .eq 8, 3, 2), (31, .aload_n 0, 1, 0)],
  [(32, .invokevirtual 80, 3, 3), (35, .ireturn, 1, 6), (36, .aload_n 0, 1, 0), (37, .getfield 22, 3, 1), (40, .getstatic 83, 3, 4), (43, .invokevirtual 70, 3, 3), (46, .ifCond .eq 8, 3, 2)],
  [(49, .aload_n 0, 1, 0), (50, .invokevirtual 86, 3, 3), (53, .ireturn, 1, 6), (54, .aload_n 0, 1, 0), (55, .getfield 22, 3, 1), (58, .getstatic 89, 3, 4), (61, .invokevirtual 70, 3, 3)],
  [(64, .ifCond .eq 8, 3, 2), (67, .aload_n 0, 1, 0), (68, .invokevirtual 92, 3, 3), (71, .ireturn, 1, 6), (72, .aload_n 0, 1, 0), (73, .getfield 22, 3, 1), (76, .getstatic 95, 3, 4), (79, .invokevirtual 70, 3, 3)],
  [(82, .ifCond .eq 8, 3, 2), (85, .aload_n 0, 1, 0), (86, .invokevirtual 98, 3, 3), (89, .ireturn, 1, 6), (90, .aload_n 0, 1, 0), (91, .getfield 22, 3, 1), (94, .getstatic 101, 3, 4)],
  [(97, .invokevirtual 70, 3, 3), (100, .ifCond .eq 10, 3, 2), (103, .aload_n 0, 1, 0), (104, .invokevirtual 104, 3, 3), (107, .goto 11, 3, 2), (110, .aload_n 0, 1, 0), (111, .getfield 22, 3, 1)],
  [(114, .iconst 1, 1, 0), (115, .invokevirtual 107, 3, 3), (118, .ireturn, 1, 6)]]
theorem nn_d19 : ab_dtok prog_9_method_3_code nn_dt19 = true := dw_ok (by decide +kernel)
def nn_dt20 : ab_DT := [[(0, .aload_n 0, 1, 0), (1, .getfield 49, 3, 1), (4, .iconst 2, 1, 0), (5, .if_icmp .ne 15, 3, 2), (8, .aload_n 0, 1, 0), (9, .getfield 42, 3, 1), (12, .aload_n 1, 1, 0), (13, .if_acmp .ne 7, 3, 2)],
  [(16, .iconst 1, 1, 0), (17, .goto 4, 3, 2), (20, .iconst 0, 1, 0), (21, .ireturn, 1, 6)]]
theorem nn_d20 : ab_dtok prog_10_method_10_code nn_dt20 = true := dw_ok (by decide +kernel)
def nn_dt21 : ab_DT := [[(0, .aload_n 0, 1, 0), (1, .getfield 12, 3, 1), (4, .getfield 110, 3, 1), (7, .istore_n 1, 1, 0), (8, .iload_n 1, 1, 0), (9, .bipush 9, 2, 0), (11, .if_icmp .lt 12, 3, 2), (14, .aload_n 0, 1, 0), (15, .getfield 22, 3, 1)],
  [(18, .iconst 4, 1, 0), (19, .invokevirtual 107, 3, 3), (22, .ireturn, 1, 6), (23, .aload_n 0, 1, 0), (24, .getfield 22, 3, 1), (27, .invokevirtual 113, 3, 3), (30, .aload_n 0, 1, 0), (31, .invokevirtual 116, 3, 3)],
  [(34, .ifCond .ne 5, 3, 2), (37, .iconst 0, 1, 0), (38, .ireturn, 1, 6), (39, .aload_n 0, 1, 0), (40, .getfield 12, 3, 1), (43, .getfield 119, 3, 1), (46, .iload_n 1, 1, 0), (47, .aload_n 0, 1, 0)],
  [(48, .getfield 22, 3, 1), (51, .getfield 123, 3, 1), (54, .invokestatic 127, 3, 3), (57, .aload_n 0, 1, 0), (58, .getfield 12, 3, 1), (61, .getfield 131, 3, 1)],
  [(64, .iload_n 1, 1, 0), (65, .iconst 0, 1, 0), (66, .invokestatic 134, 3, 3), (69, .aload_n 0, 1, 0), (70, .getfield 12, 3, 1), (73, .dup, 1, 0), (74, .getfield 110, 3, 1), (77, .iconst 1, 1, 0), (78, .iadd, 1, 0), (79, .putfield 110, 3, 1)],
  [(82, .aload_n 0, 1, 0), (83, .getfield 22, 3, 1), (86, .invokevirtual 113, 3, 3), (89, .aload_n 0, 1, 0), (90, .iload_n 1, 1, 0), (91, .invokevirtual 137, 3, 3), (94, .istore_n 2, 1, 0), (95, .iconst 0, 1, 0)],
  [(96, .istore_n 3, 1, 0), (97, .iload_n 3, 1, 0), (98, .bipush 9, 2, 0), (100, .if_icmp .ge 30, 3, 2), (103, .iload_n 2, 1, 0), (104, .ifCond .eq 26, 3, 2), (107, .aload_n 0, 1, 0), (108, .getfield 22, 3, 1), (111, .getfield 50, 3, 1)],
  [(114, .iconst 3, 1, 0), (115, .if_icmp .ne 15, 3, 2), (118, .aload_n 0, 1, 0), (119, .iload_n 1, 1, 0), (120, .invokevirtual 137, 3, 3), (123, .istore_n 2, 1, 0), (124, .iinc 3 1, 3, 0), (127, .goto (-30), 3, 2)],
  [(130, .iload_n 2, 1, 0), (131, .ireturn, 1, 6)]]
theorem nn_d21 : ab_dtok prog_9_method_4_code nn_dt21 = true := dw_ok (by decide +kernel)
def nn_dt22 : ab_DT := [[(0, .aload_n 0, 1, 0), (1, .iload_n 1, 1, 0), (2, .putfield 25, 3, 1), (5, .aload_n 0, 1, 0), (6, .aload_n 0, 1, 0), (7, .getfield 46, 3, 1), (10, .putfield 28, 3, 1), (13, .iconst 0, 1, 0), (14, .ireturn, 1, 6)]]
theorem nn_d22 : ab_dtok prog_10_method_14_code nn_dt22 = true := dw_ok (by decide +kernel)
def nn_dt23 : ab_DT := [[(0, .aload_n 0, 1, 0), (1, .getfield 22, 3, 1), (4, .invokevirtual 198, 3, 3), (7, .ifCond .ne 12, 3, 2), (10, .aload_n 0, 1, 0), (11, .getfield 22, 3, 1), (14, .iconst 1, 1, 0), (15, .invokevirtual 107, 3, 3)],
  [(18, .ireturn, 1, 6), (19, .aload_n 0, 1, 0), (20, .aload_n 0, 1, 0), (21, .getfield 12, 3, 1), (24, .getfield 119, 3, 1), (27, .aload_n 0, 1, 0), (28, .getfield 12, 3, 1), (31, .getfield 110, 3, 1)],
  [(34, .invokevirtual 201, 3, 3), (37, .ifCond .ne 45, 3, 2), (40, .aload_n 0, 1, 0), (41, .aload_n 0, 1, 0), (42, .getfield 12, 3, 1), (45, .getfield 160, 3, 1)],
  [(48, .aload_n 0, 1, 0), (49, .getfield 12, 3, 1), (52, .getfield 157, 3, 1), (55, .invokevirtual 201, 3, 3), (58, .ifCond .ne 24, 3, 2), (61, .aload_n 0, 1, 0), (62, .aload_n 0, 1, 0), (63, .getfield 12, 3, 1)],
  [(66, .getfield 179, 3, 1), (69, .aload_n 0, 1, 0), (70, .getfield 12, 3, 1), (73, .getfield 176, 3, 1), (76, .invokevirtual 201, 3, 3), (79, .ifCond .eq 7, 3, 2)],
  [(82, .iconst 1, 1, 0), (83, .goto 4, 3, 2), (86, .iconst 0, 1, 0), (87, .istore_n 1, 1, 0), (88, .iload_n 1, 1, 0), (89, .ifCond .eq 14, 3, 2), (92, .aload_n 0, 1, 0), (93, .getfield 22, 3, 1)],
  [(96, .iconst 3, 1, 0), (97, .invokevirtual 107, 3, 3), (100, .ifCond .eq 7, 3, 2), (103, .iconst 1, 1, 0), (104, .goto 4, 3, 2), (107, .iconst 0, 1, 0), (108, .ireturn, 1, 6)]]
theorem nn_d23 : ab_dtok prog_9_method_12_code nn_dt23 = true := dw_ok (by decide +kernel)
def nn_dt24 : ab_DT := [[(0, .aload_n 0, 1, 0), (1, .getfield 49, 3, 1), (4, .iconst 2, 1, 0), (5, .if_icmp .ne 14, 3, 2), (8, .aload_n 0, 1, 0), (9, .getfield 42, 3, 1), (12, .ifnonnull 7, 3, 2), (15, .iconst 1, 1, 0)],
  [(16, .goto 4, 3, 2), (19, .iconst 0, 1, 0), (20, .ireturn, 1, 6)]]
theorem nn_d24 : ab_dtok prog_10_method_9_code nn_dt24 = true := dw_ok (by decide +kernel)
def nn_dt25 : ab_DT := [[(0, .iconst 0, 1, 0), (1, .istore_n 3, 1, 0), (2, .iload_n 3, 1, 0), (3, .iload_n 2, 1, 0), (4, .if_icmp .ge 31, 3, 2), (7, .iload_n 3, 1, 0), (8, .aload_n 1, 1, 0), (9, .arraylength, 1, 1), (10, .if_icmp .ge 25, 3, 2), (13, .aload_n 1, 1, 0), (14, .iload_n 3, 1, 0), (15, .laload, 1, 1)],
  [(16, .aload_n 0, 1, 0), (17, .getfield 22, 3, 1), (20, .getfield 123, 3, 1), (23, .lcmp, 1, 2), (24, .ifCond .ne 5, 3, 2), (27, .iconst 1, 1, 0), (28, .ireturn, 1, 6), (29, .iinc 3 1, 3, 0)],
  [(32, .goto (-30), 3, 2), (35, .iconst 0, 1, 0), (36, .ireturn, 1, 6)]]
theorem nn_d25 : ab_dtok prog_9_method_13_code nn_dt25 = true := dw_ok (by decide +kernel)
def nn_dt26 : ab_DT := [[(0, .aload_n 0, 1, 0), (1, .ifnull 17, 3, 2), (4, .iload_n 1, 1, 0), (5, .ifCond .lt 13, 3, 2), (8, .iload_n 1, 1, 0), (9, .aload_n 0, 1, 0), (10, .arraylength, 1, 1), (11, .if_icmp .ge 7, 3, 2), (14, .aload_n 0, 1, 0), (15, .iload_n 1, 1, 0)],
  [(16, .lload_n 2, 1, 0), (17, .lastore, 1, 1), (18, .return_, 1, 6)]]
theorem nn_d26 : ab_dtok prog_1_method_87_code nn_dt26 = true := dw_ok (by decide +kernel)
def nn_dt27 : ab_DT := [[(0, .aload_n 0, 1, 0), (1, .ifnull 17, 3, 2), (4, .iload_n 1, 1, 0), (5, .ifCond .lt 13, 3, 2), (8, .iload_n 1, 1, 0), (9, .aload_n 0, 1, 0), (10, .arraylength, 1, 1), (11, .if_icmp .ge 7, 3, 2), (14, .aload_n 0, 1, 0), (15, .iload_n 1, 1, 0)],
  [(16, .iload_n 2, 1, 0), (17, .iastore, 1, 1), (18, .return_, 1, 6)]]
theorem nn_d27 : ab_dtok prog_1_method_86_code nn_dt27 = true := dw_ok (by decide +kernel)
def nn_dt28 : ab_DT := [[(0, .aload_n 0, 1, 0), (1, .getfield 12, 3, 1), (4, .getfield 131, 3, 1), (7, .iload_n 1, 1, 0), (8, .invokestatic 140, 3, 3), (11, .istore_n 2, 1, 0), (12, .aload_n 0, 1, 0), (13, .getfield 22, 3, 1)],
  [(16, .iconst 0, 1, 0), (17, .bipush 24, 2, 0), (19, .invokevirtual 144, 3, 3), (22, .ifCond .ne 5, 3, 2), (25, .iconst 0, 1, 0), (26, .ireturn, 1, 6), (27, .iload_n 2, 1, 0), (28, .bipush 9, 2, 0), (30, .if_icmp .lt 12, 3, 2)],
  [(33, .aload_n 0, 1, 0), (34, .getfield 22, 3, 1), (37, .iconst 4, 1, 0), (38, .invokevirtual 107, 3, 3), (41, .ireturn, 1, 6), (42, .aload_n 0, 1, 0), (43, .getfield 12, 3, 1), (46, .getfield 148, 3, 1)],
  [(49, .iload_n 1, 1, 0), (50, .bipush 9, 2, 0), (52, .imul, 1, 0), (53, .iload_n 2, 1, 0), (54, .iadd, 1, 0), (55, .aload_n 0, 1, 0), (56, .getfield 22, 3, 1), (59, .getfield 151, 3, 1), (62, .invokestatic 134, 3, 3)],
  [(65, .aload_n 0, 1, 0), (66, .getfield 22, 3, 1), (69, .invokevirtual 113, 3, 3), (72, .aload_n 0, 1, 0), (73, .getfield 22, 3, 1), (76, .iconst 1, 1, 0), (77, .bipush 9, 2, 0), (79, .invokevirtual 144, 3, 3)],
  [(82, .ifCond .ne 5, 3, 2), (85, .iconst 0, 1, 0), (86, .ireturn, 1, 6), (87, .aload_n 0, 1, 0), (88, .getfield 12, 3, 1), (91, .getfield 154, 3, 1), (94, .iload_n 1, 1, 0), (95, .bipush 9, 2, 0)],
  [(97, .imul, 1, 0), (98, .iload_n 2, 1, 0), (99, .iadd, 1, 0), (100, .aload_n 0, 1, 0), (101, .getfield 22, 3, 1), (104, .getfield 151, 3, 1), (107, .invokestatic 134, 3, 3), (110, .aload_n 0, 1, 0), (111, .getfield 12, 3, 1)],
  [(114, .getfield 131, 3, 1), (117, .iload_n 1, 1, 0), (118, .iload_n 2, 1, 0), (119, .iconst 1, 1, 0), (120, .iadd, 1, 0), (121, .invokestatic 134, 3, 3), (124, .aload_n 0, 1, 0), (125, .getfield 22, 3, 1)],
  [(128, .invokevirtual 113, 3, 3), (131, .iconst 1, 1, 0), (132, .ireturn, 1, 6)]]
theorem nn_d28 : ab_dtok prog_9_method_5_code nn_dt28 = true := dw_ok (by decide +kernel)
def nn_dt29 : ab_DT := [[(0, .aload_n 0, 1, 0), (1, .ifnull 19, 3, 2), (4, .iload_n 1, 1, 0), (5, .ifCond .lt 15, 3, 2), (8, .iload_n 1, 1, 0), (9, .aload_n 0, 1, 0), (10, .arraylength, 1, 1), (11, .if_icmp .ge 9, 3, 2), (14, .aload_n 0, 1, 0), (15, .iload_n 1, 1, 0)],
  [(16, .iaload, 1, 1), (17, .goto 4, 3, 2), (20, .iconst 0, 1, 0), (21, .ireturn, 1, 6)]]
theorem nn_d29 : ab_dtok prog_1_method_84_code nn_dt29 = true := dw_ok (by decide +kernel)
def nn_dt30 : ab_DT := [[(0, .aload_n 0, 1, 0), (1, .getfield 49, 3, 1), (4, .iconst 3, 1, 0), (5, .if_icmp .eq 9, 3, 2), (8, .aload_n 0, 1, 0), (9, .iconst 1, 1, 0), (10, .invokevirtual 91, 3, 3), (13, .ireturn, 1, 6), (14, .aload_n 0, 1, 0), (15, .getfield 68, 3, 1)],
  [(18, .iload_n 1, 1, 0), (19, .if_icmp .lt 11, 3, 2), (22, .aload_n 0, 1, 0), (23, .getfield 68, 3, 1), (26, .iload_n 2, 1, 0), (27, .if_icmp .le 11, 3, 2), (30, .aload_n 0, 1, 0), (31, .iconst 2, 1, 0)],
  [(32, .invokevirtual 91, 3, 3), (35, .ifCond .eq 7, 3, 2), (38, .iconst 1, 1, 0), (39, .goto 4, 3, 2), (42, .iconst 0, 1, 0), (43, .ireturn, 1, 6)]]
theorem nn_d30 : ab_dtok prog_10_method_12_code nn_dt30 = true := dw_ok (by decide +kernel)
def nn_dt31 : ab_DT := [[(0, .aload_n 0, 1, 0), (1, .getfield 12, 3, 1), (4, .getfield 157, 3, 1), (7, .istore_n 1, 1, 0), (8, .iload_n 1, 1, 0), (9, .bipush 6, 2, 0), (11, .if_icmp .lt 12, 3, 2), (14, .aload_n 0, 1, 0), (15, .getfield 22, 3, 1)],
  [(18, .iconst 4, 1, 0), (19, .invokevirtual 107, 3, 3), (22, .ireturn, 1, 6), (23, .aload_n 0, 1, 0), (24, .getfield 22, 3, 1), (27, .invokevirtual 113, 3, 3), (30, .aload_n 0, 1, 0), (31, .invokevirtual 116, 3, 3)],
  [(34, .ifCond .ne 5, 3, 2), (37, .iconst 0, 1, 0), (38, .ireturn, 1, 6), (39, .aload_n 0, 1, 0), (40, .getfield 12, 3, 1), (43, .getfield 160, 3, 1), (46, .iload_n 1, 1, 0), (47, .aload_n 0, 1, 0)],
  [(48, .getfield 22, 3, 1), (51, .getfield 123, 3, 1), (54, .invokestatic 127, 3, 3), (57, .aload_n 0, 1, 0), (58, .getfield 12, 3, 1), (61, .getfield 163, 3, 1)],
  [(64, .iload_n 1, 1, 0), (65, .iconst 0, 1, 0), (66, .invokestatic 134, 3, 3), (69, .aload_n 0, 1, 0), (70, .getfield 12, 3, 1), (73, .dup, 1, 0), (74, .getfield 157, 3, 1), (77, .iconst 1, 1, 0), (78, .iadd, 1, 0), (79, .putfield 157, 3, 1)],
  [(82, .aload_n 0, 1, 0), (83, .getfield 22, 3, 1), (86, .invokevirtual 113, 3, 3), (89, .aload_n 0, 1, 0), (90, .iload_n 1, 1, 0), (91, .invokevirtual 166, 3, 3), (94, .istore_n 2, 1, 0), (95, .iconst 0, 1, 0)],
  [(96, .istore_n 3, 1, 0), (97, .iload_n 3, 1, 0), (98, .bipush 9, 2, 0), (100, .if_icmp .ge 30, 3, 2), (103, .iload_n 2, 1, 0), (104, .ifCond .eq 26, 3, 2), (107, .aload_n 0, 1, 0), (108, .getfield 22, 3, 1), (111, .getfield 50, 3, 1)],
  [(114, .iconst 2, 1, 0), (115, .if_icmp .ne 15, 3, 2), (118, .aload_n 0, 1, 0), (119, .iload_n 1, 1, 0), (120, .invokevirtual 166, 3, 3), (123, .istore_n 2, 1, 0), (124, .iinc 3 1, 3, 0), (127, .goto (-30), 3, 2)],
  [(130, .iload_n 2, 1, 0), (131, .ireturn, 1, 6)]]
theorem nn_d31 : ab_dtok prog_9_method_6_code nn_dt31 = true := dw_ok (by decide +kernel)
def nn_dt32 : ab_DT := [[(0, .aload_n 0, 1, 0), (1, .getfield 22, 3, 1), (4, .aload_n 0, 1, 0), (5, .getfield 12, 3, 1), (8, .getfield 119, 3, 1), (11, .aload_n 0, 1, 0), (12, .getfield 12, 3, 1), (15, .getfield 110, 3, 1)],
  [(18, .invokevirtual 169, 3, 3), (21, .istore_n 2, 1, 0), (22, .iload_n 2, 1, 0), (23, .iconst (-1), 1, 0), (24, .if_icmp .ne 5, 3, 2), (27, .iconst 0, 1, 0), (28, .ireturn, 1, 6), (29, .aload_n 0, 1, 0), (30, .getfield 12, 3, 1)],
  [(33, .getfield 163, 3, 1), (36, .iload_n 1, 1, 0), (37, .invokestatic 140, 3, 3), (40, .istore_n 3, 1, 0), (41, .iload_n 3, 1, 0), (42, .iload_n 2, 1, 0), (43, .invokestatic 173, 3, 3), (46, .ifCond .eq 12, 3, 2)],
  [(49, .aload_n 0, 1, 0), (50, .getfield 22, 3, 1), (53, .iconst 3, 1, 0), (54, .invokevirtual 107, 3, 3), (57, .ireturn, 1, 6), (58, .aload_n 0, 1, 0), (59, .getfield 12, 3, 1), (62, .getfield 163, 3, 1)],
  [(65, .iload_n 1, 1, 0), (66, .iload_n 3, 1, 0), (67, .iconst 1, 1, 0), (68, .iload_n 2, 1, 0), (69, .ishl, 1, 0), (70, .ior, 1, 0), (71, .invokestatic 134, 3, 3), (74, .aload_n 0, 1, 0), (75, .getfield 22, 3, 1), (78, .invokevirtual 113, 3, 3)],
  [(81, .iconst 1, 1, 0), (82, .ireturn, 1, 6)]]
theorem nn_d32 : ab_dtok prog_9_method_7_code nn_dt32 = true := dw_ok (by decide +kernel)
def nn_dt33 : ab_DT := [[(0, .aload_n 0, 1, 0), (1, .invokevirtual 87, 3, 3), (4, .ifCond .ne 11, 3, 2), (7, .aload_n 0, 1, 0), (8, .iconst 1, 1, 0), (9, .invokevirtual 91, 3, 3), (12, .pop, 1, 0), (13, .iconst (-1), 1, 0), (14, .ireturn, 1, 6), (15, .iconst 0, 1, 0)],
  [(16, .istore_n 3, 1, 0), (17, .iload_n 3, 1, 0), (18, .iload_n 2, 1, 0), (19, .if_icmp .ge 28, 3, 2), (22, .iload_n 3, 1, 0), (23, .aload_n 1, 1, 0), (24, .arraylength, 1, 1), (25, .if_icmp .ge 22, 3, 2), (28, .aload_n 1, 1, 0), (29, .iload_n 3, 1, 0), (30, .laload, 1, 1), (31, .aload_n 0, 1, 0)],
  [(32, .getfield 64, 3, 1), (35, .lcmp, 1, 2), (36, .ifCond .ne 5, 3, 2), (39, .iload_n 3, 1, 0), (40, .ireturn, 1, 6), (41, .iinc 3 1, 3, 0), (44, .goto (-27), 3, 2), (47, .aload_n 0, 1, 0)],
  [(48, .iconst 3, 1, 0), (49, .invokevirtual 91, 3, 3), (52, .pop, 1, 0), (53, .iconst (-1), 1, 0), (54, .ireturn, 1, 6)]]
theorem nn_d33 : ab_dtok prog_10_method_11_code nn_dt33 = true := dw_ok (by decide +kernel)
def nn_dt34 : ab_DT := [[(0, .iload_n 1, 1, 0), (1, .ifCond .lt 22, 3, 2), (4, .iload_n 1, 1, 0), (5, .bipush 9, 2, 0), (7, .if_icmp .ge 16, 3, 2), (10, .iload_n 0, 1, 0), (11, .iload_n 1, 1, 0), (12, .ishr, 1, 0), (13, .iconst 1, 1, 0), (14, .iand, 1, 0), (15, .iconst 1, 1, 0)],
  [(16, .if_icmp .ne 7, 3, 2), (19, .iconst 1, 1, 0), (20, .goto 4, 3, 2), (23, .iconst 0, 1, 0), (24, .ireturn, 1, 6)]]
theorem nn_d34 : ab_dtok prog_1_method_80_code nn_dt34 = true := dw_ok (by decide +kernel)
def nn_dt35 : ab_DT := [[(0, .aload_n 0, 1, 0), (1, .getfield 12, 3, 1), (4, .getfield 176, 3, 1), (7, .istore_n 1, 1, 0), (8, .iload_n 1, 1, 0), (9, .iconst 5, 1, 0), (10, .if_icmp .lt 12, 3, 2), (13, .aload_n 0, 1, 0), (14, .getfield 22, 3, 1)],
  [(17, .iconst 4, 1, 0), (18, .invokevirtual 107, 3, 3), (21, .ireturn, 1, 6), (22, .aload_n 0, 1, 0), (23, .getfield 22, 3, 1), (26, .invokevirtual 113, 3, 3), (29, .aload_n 0, 1, 0), (30, .invokevirtual 116, 3, 3)],
  [(33, .ifCond .ne 5, 3, 2), (36, .iconst 0, 1, 0), (37, .ireturn, 1, 6), (38, .aload_n 0, 1, 0), (39, .getfield 12, 3, 1), (42, .getfield 179, 3, 1), (45, .iload_n 1, 1, 0), (46, .aload_n 0, 1, 0), (47, .getfield 22, 3, 1)],
  [(50, .getfield 123, 3, 1), (53, .invokestatic 127, 3, 3), (56, .aload_n 0, 1, 0), (57, .getfield 12, 3, 1), (60, .dup, 1, 0), (61, .getfield 176, 3, 1)],
  [(64, .iconst 1, 1, 0), (65, .iadd, 1, 0), (66, .putfield 176, 3, 1), (69, .aload_n 0, 1, 0), (70, .getfield 22, 3, 1), (73, .invokevirtual 113, 3, 3), (76, .iconst 1, 1, 0), (77, .ireturn, 1, 6)]]
theorem nn_d35 : ab_dtok prog_9_method_8_code nn_dt35 = true := dw_ok (by decide +kernel)
def nn_dt36 : ab_DT := [[(0, .aload_n 0, 1, 0), (1, .getfield 22, 3, 1), (4, .invokevirtual 113, 3, 3), (7, .aload_n 0, 1, 0), (8, .getfield 22, 3, 1), (11, .aload_n 0, 1, 0), (12, .getfield 12, 3, 1), (15, .getfield 179, 3, 1)],
  [(18, .aload_n 0, 1, 0), (19, .getfield 12, 3, 1), (22, .getfield 176, 3, 1), (25, .invokevirtual 169, 3, 3), (28, .istore_n 1, 1, 0), (29, .aload_n 0, 1, 0), (30, .getfield 22, 3, 1)],
  [(33, .getfield 182, 3, 1), (36, .istore_n 2, 1, 0), (37, .iload_n 1, 1, 0), (38, .iconst (-1), 1, 0), (39, .if_icmp .ne 5, 3, 2), (42, .iconst 0, 1, 0), (43, .ireturn, 1, 6), (44, .aload_n 0, 1, 0), (45, .getfield 22, 3, 1)],
  [(48, .invokevirtual 113, 3, 3), (51, .aload_n 0, 1, 0), (52, .getfield 22, 3, 1), (55, .aload_n 0, 1, 0), (56, .getfield 12, 3, 1), (59, .getfield 119, 3, 1), (62, .aload_n 0, 1, 0), (63, .getfield 12, 3, 1)],
  [(66, .getfield 110, 3, 1), (69, .invokevirtual 169, 3, 3), (72, .istore_n 3, 1, 0), (73, .iload_n 3, 1, 0), (74, .iconst (-1), 1, 0), (75, .if_icmp .ne 5, 3, 2), (78, .iconst 0, 1, 0), (79, .ireturn, 1, 6)],
  [(80, .aload_n 0, 1, 0), (81, .getfield 18, 3, 1), (84, .iload_n 1, 1, 0), (85, .invokestatic 140, 3, 3), (88, .istore 4, 2, 0), (90, .iload 4, 2, 0), (92, .iload_n 3, 1, 0), (93, .invokestatic 173, 3, 3)],
  [(96, .ifCond .eq 22, 3, 2), (99, .aload_n 0, 1, 0), (100, .getfield 22, 3, 1), (103, .iconst 3, 1, 0), (104, .invokevirtual 107, 3, 3), (107, .pop, 1, 0), (108, .aload_n 0, 1, 0), (109, .getfield 22, 3, 1)],
  [(112, .iload_n 2, 1, 0), (113, .putfield 185, 3, 1), (116, .iconst 0, 1, 0), (117, .ireturn, 1, 6), (118, .aload_n 0, 1, 0), (119, .getfield 18, 3, 1), (122, .iload_n 1, 1, 0), (123, .iload 4, 2, 0), (125, .iconst 1, 1, 0), (126, .iload_n 3, 1, 0), (127, .ishl, 1, 0)],
  [(128, .ior, 1, 0), (129, .invokestatic 134, 3, 3), (132, .aload_n 0, 1, 0), (133, .getfield 22, 3, 1), (136, .invokevirtual 113, 3, 3), (139, .aload_n 0, 1, 0), (140, .getfield 22, 3, 1), (143, .iconst 0, 1, 0)],
  [(144, .bipush 9, 2, 0), (146, .invokevirtual 144, 3, 3), (149, .ifCond .ne 5, 3, 2), (152, .iconst 0, 1, 0), (153, .ireturn, 1, 6), (154, .aload_n 0, 1, 0), (155, .getfield 12, 3, 1), (158, .iload_n 1, 1, 0), (159, .iload_n 3, 1, 0)],
  [(160, .aload_n 0, 1, 0), (161, .getfield 22, 3, 1), (164, .getfield 151, 3, 1), (167, .invokevirtual 188, 3, 3), (170, .aload_n 0, 1, 0), (171, .getfield 22, 3, 1), (174, .invokevirtual 113, 3, 3)],
  [(177, .iconst 1, 1, 0), (178, .ireturn, 1, 6)]]
theorem nn_d36 : ab_dtok prog_9_method_9_code nn_dt36 = true := dw_ok (by decide +kernel)
def nn_dt37 : ab_DT := [[(0, .aload_n 0, 1, 0), (1, .getfield 27, 3, 1), (4, .iload_n 1, 1, 0), (5, .bipush 9, 2, 0), (7, .imul, 1, 0), (8, .iload_n 2, 1, 0), (9, .iadd, 1, 0), (10, .iload_n 3, 1, 0), (11, .invokestatic 99, 3, 3), (14, .return_, 1, 6)]]
theorem nn_d37 : ab_dtok prog_8_method_14_code nn_dt37 = true := dw_ok (by decide +kernel)
def nn_dt38 : ab_DT := [[(0, .aload_n 0, 1, 0), (1, .getfield 22, 3, 1), (4, .invokevirtual 113, 3, 3), (7, .aload_n 0, 1, 0), (8, .getfield 22, 3, 1), (11, .aload_n 0, 1, 0), (12, .getfield 12, 3, 1), (15, .getfield 179, 3, 1)],
  [(18, .aload_n 0, 1, 0), (19, .getfield 12, 3, 1), (22, .getfield 176, 3, 1), (25, .invokevirtual 169, 3, 3), (28, .istore_n 1, 1, 0), (29, .iload_n 1, 1, 0), (30, .iconst (-1), 1, 0), (31, .if_icmp .ne 5, 3, 2)],
  [(34, .iconst 0, 1, 0), (35, .ireturn, 1, 6), (36, .aload_n 0, 1, 0), (37, .getfield 33, 3, 1), (40, .iload_n 1, 1, 0), (41, .invokestatic 173, 3, 3), (44, .ifCond .eq 12, 3, 2), (47, .aload_n 0, 1, 0)],
  [(48, .getfield 22, 3, 1), (51, .iconst 3, 1, 0), (52, .invokevirtual 107, 3, 3), (55, .ireturn, 1, 6), (56, .aload_n 0, 1, 0), (57, .dup, 1, 0), (58, .getfield 33, 3, 1), (61, .iconst 1, 1, 0), (62, .iload_n 1, 1, 0), (63, .ishl, 1, 0)],
  [(64, .ior, 1, 0), (65, .putfield 33, 3, 1), (68, .aload_n 0, 1, 0), (69, .getfield 22, 3, 1), (72, .invokevirtual 113, 3, 3), (75, .aload_n 0, 1, 0), (76, .getfield 22, 3, 1), (79, .iconst 0, 1, 0)],
  [(80, .bipush 9, 2, 0), (82, .invokevirtual 144, 3, 3), (85, .ifCond .ne 5, 3, 2), (88, .iconst 0, 1, 0), (89, .ireturn, 1, 6), (90, .aload_n 0, 1, 0), (91, .getfield 12, 3, 1), (94, .getfield 192, 3, 1)],
  [(97, .iload_n 1, 1, 0), (98, .aload_n 0, 1, 0), (99, .getfield 22, 3, 1), (102, .getfield 151, 3, 1), (105, .invokestatic 134, 3, 3), (108, .aload_n 0, 1, 0), (109, .getfield 22, 3, 1)],
  [(112, .invokevirtual 113, 3, 3), (115, .iconst 1, 1, 0), (116, .ireturn, 1, 6)]]
theorem nn_d38 : ab_dtok prog_9_method_10_code nn_dt38 = true := dw_ok (by decide +kernel)
def nn_dt39 : ab_DT := [[(0, .aload_n 0, 1, 0), (1, .getfield 37, 3, 1), (4, .ifCond .eq 12, 3, 2), (7, .aload_n 0, 1, 0), (8, .getfield 22, 3, 1), (11, .iconst 3, 1, 0), (12, .invokevirtual 107, 3, 3), (15, .ireturn, 1, 6)],
  [(16, .aload_n 0, 1, 0), (17, .iconst 1, 1, 0), (18, .putfield 37, 3, 1), (21, .aload_n 0, 1, 0), (22, .getfield 22, 3, 1), (25, .invokevirtual 113, 3, 3), (28, .aload_n 0, 1, 0), (29, .getfield 22, 3, 1)],
  [(32, .iconst 1, 1, 0), (33, .bipush 9, 2, 0), (35, .invokevirtual 144, 3, 3), (38, .ifCond .ne 5, 3, 2), (41, .iconst 0, 1, 0), (42, .ireturn, 1, 6), (43, .aload_n 0, 1, 0), (44, .getfield 12, 3, 1), (47, .aload_n 0, 1, 0)],
  [(48, .getfield 22, 3, 1), (51, .getfield 151, 3, 1), (54, .putfield 195, 3, 1), (57, .aload_n 0, 1, 0), (58, .getfield 22, 3, 1), (61, .invokevirtual 113, 3, 3)],
  [(64, .iconst 1, 1, 0), (65, .ireturn, 1, 6)]]
theorem nn_d39 : ab_dtok prog_9_method_11_code nn_dt39 = true := dw_ok (by decide +kernel)
def nn_DT_0 : List ab_DT := [nn_dt0, nn_dt1, nn_dt2, nn_dt3, nn_dt4, nn_dt5, nn_dt6, nn_dt7, nn_dt8, nn_dt9, nn_dt10, nn_dt11, nn_dt12, nn_dt13, nn_dt14, nn_dt15, nn_dt16, nn_dt17, nn_dt18, nn_dt19, nn_dt20, nn_dt21, nn_dt22, nn_dt23, nn_dt24, nn_dt25, nn_dt26, nn_dt27, nn_dt28, nn_dt29, nn_dt30, nn_dt31, nn_dt32, nn_dt33, nn_dt34, nn_dt35, nn_dt36, nn_dt37, nn_dt38, nn_dt39]
theorem nn_DT_0_ok : ab_dtP nn_MT_0 nn_DT_0 := ⟨nn_d0, nn_d1, nn_d2, nn_d3, nn_d4, nn_d5, nn_d6, nn_d7, nn_d8, nn_d9, nn_d10, nn_d11, nn_d12, nn_d13, nn_d14, nn_d15, nn_d16, nn_d17, nn_d18, nn_d19, nn_d20, nn_d21, nn_d22, nn_d23, nn_d24, nn_d25, nn_d26, nn_d27, nn_d28, nn_d29, nn_d30, nn_d31, nn_d32, nn_d33, nn_d34, nn_d35, nn_d36, nn_d37, nn_d38, nn_d39, trivial⟩
