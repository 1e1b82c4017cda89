def nn_dt240 : ab_DT := [[(0, .aload_n 0, 1, 0), (1, .getfield 13, 3, 1), (4, .iconst 0, 1, 0), (5, .iaload, 1, 1), (6, .ireturn, 1, 6)]]
theorem nn_d240 : ab_dtok prog_14_method_41_code nn_dt240 = true := dw_ok (by decide +kernel)
def nn_dt241 : ab_DT := [[(0, .aload_n 0, 1, 0), (1, .getfield 13, 3, 1), (4, .iconst 5, 1, 0), (5, .bipush 19, 2, 0), (7, .iload_n 1, 1, 0), (8, .imul, 1, 0), (9, .iadd, 1, 0), (10, .iaload, 1, 1), (11, .ireturn, 1, 6)]]
theorem nn_d241 : ab_dtok prog_14_method_45_code nn_dt241 = true := dw_ok (by decide +kernel)
def nn_dt242 : ab_DT := [[(0, .aload_n 0, 1, 0), (1, .getfield 13, 3, 1), (4, .iconst 5, 1, 0), (5, .bipush 19, 2, 0), (7, .iload_n 1, 1, 0), (8, .imul, 1, 0), (9, .iadd, 1, 0), (10, .iconst 1, 1, 0), (11, .iadd, 1, 0), (12, .iconst 2, 1, 0), (13, .iload_n 2, 1, 0), (14, .imul, 1, 0), (15, .iadd, 1, 0)],
  [(16, .iload_n 3, 1, 0), (17, .iadd, 1, 0), (18, .iaload, 1, 1), (19, .ireturn, 1, 6)]]
theorem nn_d242 : ab_dtok prog_14_method_46_code nn_dt242 = true := dw_ok (by decide +kernel)
def nn_dt243 : ab_DT := [[(0, .aload_n 0, 1, 0), (1, .iconst 0, 1, 0), (2, .putfield 100, 3, 1), (5, .aload_n 0, 1, 0), (6, .iload_n 1, 1, 0), (7, .invokevirtual 267, 3, 3), (10, .ifCond .eq 21, 3, 2), (13, .iload_n 2, 1, 0), (14, .iconst 0, 1, 0), (15, .iconst 3, 1, 0)],
  [(16, .invokestatic 171, 3, 3), (19, .ifCond .eq 12, 3, 2), (22, .aload_n 0, 1, 0), (23, .iload_n 1, 1, 0), (24, .iload_n 2, 1, 0), (25, .invokevirtual 277, 3, 3), (28, .goto 4, 3, 2), (31, .iconst (-1), 1, 0)],
  [(32, .ireturn, 1, 6)]]
theorem nn_d243 : ab_dtok prog_14_method_51_code nn_dt243 = true := dw_ok (by decide +kernel)
def nn_dt244 : ab_DT := [[(0, .iload_n 2, 1, 0), (1, .ifCond .ne 9, 3, 2), (4, .aload_n 0, 1, 0), (5, .iload_n 1, 1, 0), (6, .invokevirtual 270, 3, 3), (9, .ireturn, 1, 6), (10, .iload_n 2, 1, 0), (11, .iconst 3, 1, 0), (12, .if_icmp .ne 7, 3, 2), (15, .iconst 0, 1, 0)],
  [(16, .goto 10, 3, 2), (19, .aload_n 0, 1, 0), (20, .iload_n 1, 1, 0), (21, .iconst 0, 1, 0), (22, .iconst 0, 1, 0), (23, .invokevirtual 273, 3, 3), (26, .istore_n 3, 1, 0), (27, .iconst 0, 1, 0), (28, .istore 4, 2, 0), (30, .iload 4, 2, 0)],
  [(32, .aload_n 0, 1, 0), (33, .iload_n 1, 1, 0), (34, .invokevirtual 270, 3, 3), (37, .if_icmp .ge 61, 3, 2), (40, .aload_n 0, 1, 0), (41, .iload_n 1, 1, 0), (42, .iload 4, 2, 0), (44, .iconst 0, 1, 0), (45, .invokevirtual 273, 3, 3)],
  [(48, .istore 5, 2, 0), (50, .iload_n 2, 1, 0), (51, .iconst 3, 1, 0), (52, .if_icmp .ne 17, 3, 2), (55, .iload_n 3, 1, 0), (56, .aload_n 0, 1, 0), (57, .iload_n 1, 1, 0), (58, .iload 4, 2, 0), (60, .iconst 1, 1, 0), (61, .invokevirtual 273, 3, 3)],
  [(64, .iadd, 1, 0), (65, .istore_n 3, 1, 0), (66, .goto 26, 3, 2), (69, .iload_n 2, 1, 0), (70, .iconst 1, 1, 0), (71, .if_icmp .ne 12, 3, 2), (74, .iload 5, 2, 0), (76, .iload_n 3, 1, 0), (77, .if_icmp .le 15, 3, 2)],
  [(80, .goto 9, 3, 2), (83, .iload 5, 2, 0), (85, .iload_n 3, 1, 0), (86, .if_icmp .ge 6, 3, 2), (89, .iload 5, 2, 0), (91, .istore_n 3, 1, 0), (92, .iinc 4 1, 3, 0), (95, .goto (-65), 3, 2)],
  [(98, .iload_n 3, 1, 0), (99, .ireturn, 1, 6)]]
theorem nn_d244 : ab_dtok prog_14_method_50_code nn_dt244 = true := dw_ok (by decide +kernel)
def nn_dt245 : ab_DT := [[(0, .aload_n 0, 1, 0), (1, .iconst 0, 1, 0), (2, .putfield 100, 3, 1), (5, .aload_n 0, 1, 0), (6, .iload_n 1, 1, 0), (7, .invokevirtual 267, 3, 3), (10, .ifCond .eq 16, 3, 2), (13, .iload_n 2, 1, 0), (14, .ifCond .lt 12, 3, 2)],
  [(17, .iload_n 2, 1, 0), (18, .aload_n 0, 1, 0), (19, .iload_n 1, 1, 0), (20, .invokevirtual 270, 3, 3), (23, .if_icmp .lt 5, 3, 2), (26, .iconst (-1), 1, 0), (27, .ireturn, 1, 6), (28, .iconst 0, 1, 0), (29, .istore_n 3, 1, 0), (30, .iconst 0, 1, 0), (31, .istore 4, 2, 0)],
  [(33, .iload 4, 2, 0), (35, .iload_n 2, 1, 0), (36, .if_icmp .ge 20, 3, 2), (39, .iload_n 3, 1, 0), (40, .aload_n 0, 1, 0), (41, .iload_n 1, 1, 0), (42, .iload 4, 2, 0), (44, .iconst 1, 1, 0), (45, .invokevirtual 273, 3, 3)],
  [(48, .iadd, 1, 0), (49, .istore_n 3, 1, 0), (50, .iinc 4 1, 3, 0), (53, .goto (-20), 3, 2), (56, .iload_n 3, 1, 0), (57, .ireturn, 1, 6)]]
theorem nn_d245 : ab_dtok prog_14_method_52_code nn_dt245 = true := dw_ok (by decide +kernel)
def nn_dt246 : ab_DT := [[(0, .aload_n 0, 1, 0), (1, .iconst 0, 1, 0), (2, .putfield 100, 3, 1), (5, .aload_n 0, 1, 0), (6, .iload_n 1, 1, 0), (7, .invokevirtual 264, 3, 3), (10, .ifCond .eq 16, 3, 2), (13, .aload_n 0, 1, 0), (14, .getfield 13, 3, 1)],
  [(17, .sipush 176, 3, 0), (20, .iload_n 1, 1, 0), (21, .iadd, 1, 0), (22, .iaload, 1, 1), (23, .goto 4, 3, 2), (26, .iconst (-1), 1, 0), (27, .ireturn, 1, 6)]]
theorem nn_d246 : ab_dtok prog_14_method_53_code nn_dt246 = true := dw_ok (by decide +kernel)
def nn_dt247 : ab_DT := [[(0, .iload_n 1, 1, 0), (1, .ifCond .lt 17, 3, 2), (4, .iload_n 1, 1, 0), (5, .aload_n 0, 1, 0), (6, .getfield 13, 3, 1), (9, .iconst 1, 1, 0), (10, .iaload, 1, 1), (11, .if_icmp .ge 7, 3, 2), (14, .iconst 1, 1, 0), (15, .goto 4, 3, 2)],
  [(18, .iconst 0, 1, 0), (19, .ireturn, 1, 6)]]
theorem nn_d247 : ab_dtok prog_14_method_43_code nn_dt247 = true := dw_ok (by decide +kernel)
def nn_dt248 : ab_DT := [[(0, .aload_n 0, 1, 0), (1, .iconst 0, 1, 0), (2, .putfield 100, 3, 1), (5, .aload_n 0, 1, 0), (6, .iload_n 1, 1, 0), (7, .invokevirtual 281, 3, 3), (10, .ifCond .eq 20, 3, 2), (13, .aload_n 0, 1, 0), (14, .iload_n 2, 1, 0), (15, .invokevirtual 267, 3, 3)],
  [(18, .ifCond .eq 12, 3, 2), (21, .aload_n 0, 1, 0), (22, .iload_n 1, 1, 0), (23, .iload_n 2, 1, 0), (24, .invokevirtual 284, 3, 3), (27, .goto 4, 3, 2), (30, .iconst (-1), 1, 0), (31, .ireturn, 1, 6)]]
theorem nn_d248 : ab_dtok prog_14_method_55_code nn_dt248 = true := dw_ok (by decide +kernel)
def nn_dt249 : ab_DT := [[(0, .iload_n 1, 1, 0), (1, .ifCond .lt 17, 3, 2), (4, .iload_n 1, 1, 0), (5, .aload_n 0, 1, 0), (6, .getfield 13, 3, 1), (9, .iconst 2, 1, 0), (10, .iaload, 1, 1), (11, .if_icmp .ge 7, 3, 2), (14, .iconst 1, 1, 0), (15, .goto 4, 3, 2)],
  [(18, .iconst 0, 1, 0), (19, .ireturn, 1, 6)]]
theorem nn_d249 : ab_dtok prog_14_method_44_code nn_dt249 = true := dw_ok (by decide +kernel)
def nn_dt250 : ab_DT := [[(0, .aload_n 0, 1, 0), (1, .getfield 13, 3, 1), (4, .sipush 182, 3, 0), (7, .bipush 9, 2, 0), (9, .iload_n 1, 1, 0), (10, .imul, 1, 0), (11, .iadd, 1, 0), (12, .iload_n 2, 1, 0), (13, .iadd, 1, 0), (14, .iaload, 1, 1), (15, .ireturn, 1, 6)]]
theorem nn_d250 : ab_dtok prog_14_method_54_code nn_dt250 = true := dw_ok (by decide +kernel)
def nn_dt251 : ab_DT := [[(0, .aload_n 0, 1, 0), (1, .iconst 0, 1, 0), (2, .putfield 100, 3, 1), (5, .aload_n 0, 1, 0), (6, .iload_n 1, 1, 0), (7, .invokevirtual 281, 3, 3), (10, .ifCond .eq 16, 3, 2), (13, .aload_n 0, 1, 0), (14, .getfield 13, 3, 1)],
  [(17, .sipush 227, 3, 0), (20, .iload_n 1, 1, 0), (21, .iadd, 1, 0), (22, .iaload, 1, 1), (23, .goto 4, 3, 2), (26, .iconst (-1), 1, 0), (27, .ireturn, 1, 6)]]
theorem nn_d251 : ab_dtok prog_14_method_56_code nn_dt251 = true := dw_ok (by decide +kernel)
def nn_dt252 : ab_DT := [[(0, .aload_n 0, 1, 0), (1, .iconst 0, 1, 0), (2, .putfield 100, 3, 1), (5, .aload_n 0, 1, 0), (6, .iload_n 1, 1, 0), (7, .invokevirtual 267, 3, 3), (10, .ifCond .eq 45, 3, 2), (13, .iload_n 2, 1, 0), (14, .iconst 1, 1, 0), (15, .bipush 9, 2, 0)],
  [(17, .invokestatic 171, 3, 3), (20, .ifCond .eq 35, 3, 2), (23, .iload_n 3, 1, 0), (24, .invokestatic 297, 3, 3), (27, .ifCond .eq 28, 3, 2), (30, .aload_n 0, 1, 0), (31, .iload 4, 2, 0)],
  [(33, .invokevirtual 300, 3, 3), (36, .ifCond .eq 19, 3, 2), (39, .aload_n 0, 1, 0), (40, .iload_n 1, 1, 0), (41, .iload_n 2, 1, 0), (42, .iload_n 3, 1, 0), (43, .aload_n 0, 1, 0), (44, .iload 4, 2, 0), (46, .invokevirtual 303, 3, 3)],
  [(49, .invokevirtual 306, 3, 3), (52, .goto 4, 3, 2), (55, .iconst (-1), 1, 0), (56, .ireturn, 1, 6)]]
theorem nn_d252 : ab_dtok prog_14_method_62_code nn_dt252 = true := dw_ok (by decide +kernel)
def nn_dt253 : ab_DT := [[(0, .iload_n 0, 1, 0), (1, .iconst 0, 1, 0), (2, .iconst 3, 1, 0), (3, .invokestatic 171, 3, 3), (6, .ireturn, 1, 6)]]
theorem nn_d253 : ab_dtok prog_14_method_61_code nn_dt253 = true := dw_ok (by decide +kernel)
def nn_dt254 : ab_DT := [[(0, .iload_n 1, 1, 0), (1, .iconst (-1), 1, 0), (2, .if_icmp .eq 11, 3, 2), (5, .aload_n 0, 1, 0), (6, .iload_n 1, 1, 0), (7, .invokevirtual 264, 3, 3), (10, .ifCond .eq 7, 3, 2), (13, .iconst 1, 1, 0), (14, .goto 4, 3, 2)],
  [(17, .iconst 0, 1, 0), (18, .ireturn, 1, 6)]]
theorem nn_d254 : ab_dtok prog_14_method_48_code nn_dt254 = true := dw_ok (by decide +kernel)
def nn_dt255 : ab_DT := [[(0, .iload_n 1, 1, 0), (1, .iconst (-1), 1, 0), (2, .if_icmp .ne 14, 3, 2), (5, .iconst 1, 1, 0), (6, .aload_n 0, 1, 0), (7, .invokevirtual 261, 3, 3), (10, .ishl, 1, 0), (11, .iconst 1, 1, 0), (12, .isub, 1, 0), (13, .goto 13, 3, 2)],
  [(16, .aload_n 0, 1, 0), (17, .getfield 13, 3, 1), (20, .sipush 176, 3, 0), (23, .iload_n 1, 1, 0), (24, .iadd, 1, 0), (25, .iaload, 1, 1), (26, .ireturn, 1, 6)]]
theorem nn_d255 : ab_dtok prog_14_method_47_code nn_dt255 = true := dw_ok (by decide +kernel)
def nn_dt256 : ab_DT := [[(0, .iconst 0, 1, 0), (1, .istore 5, 2, 0), (3, .iconst 0, 1, 0), (4, .istore 6, 2, 0), (6, .iload 6, 2, 0), (8, .aload_n 0, 1, 0), (9, .invokevirtual 261, 3, 3), (12, .if_icmp .ge 40, 3, 2), (15, .iload 4, 2, 0)],
  [(17, .iload 6, 2, 0), (19, .invokestatic 216, 3, 3), (22, .ifCond .eq 24, 3, 2), (25, .aload_n 0, 1, 0), (26, .iload_n 1, 1, 0), (27, .iload 6, 2, 0), (29, .iload_n 2, 1, 0), (30, .iload_n 3, 1, 0), (31, .invokevirtual 294, 3, 3)],
  [(34, .ifCond .eq 12, 3, 2), (37, .iload 5, 2, 0), (39, .iconst 1, 1, 0), (40, .iload 6, 2, 0), (42, .ishl, 1, 0), (43, .ior, 1, 0), (44, .istore 5, 2, 0), (46, .iinc 6 1, 3, 0)],
  [(49, .goto (-43), 3, 2), (52, .iload 5, 2, 0), (54, .ireturn, 1, 6)]]
theorem nn_d256 : ab_dtok prog_14_method_60_code nn_dt256 = true := dw_ok (by decide +kernel)
def nn_dt257 : ab_DT := [[(0, .aload_n 0, 1, 0), (1, .iload_n 1, 1, 0), (2, .iload_n 2, 1, 0), (3, .iload 4, 2, 0), (5, .invokevirtual 291, 3, 3), (8, .iload_n 3, 1, 0), (9, .if_icmp .lt 7, 3, 2), (12, .iconst 1, 1, 0), (13, .goto 4, 3, 2)],
  [(16, .iconst 0, 1, 0), (17, .ireturn, 1, 6)]]
theorem nn_d257 : ab_dtok prog_14_method_59_code nn_dt257 = true := dw_ok (by decide +kernel)
def nn_dt258 : ab_DT := [[(0, .iconst 0, 1, 0), (1, .istore 4, 2, 0), (3, .iload 4, 2, 0), (5, .bipush 9, 2, 0), (7, .if_icmp .ge 21, 3, 2), (10, .aload_n 0, 1, 0), (11, .iload_n 1, 1, 0), (12, .iload_n 2, 1, 0), (13, .iload 4, 2, 0), (15, .iload_n 3, 1, 0)],
  [(16, .invokevirtual 287, 3, 3), (19, .ifCond .eq 9, 3, 2), (22, .iinc 4 1, 3, 0), (25, .goto (-22), 3, 2), (28, .iload 4, 2, 0), (30, .ireturn, 1, 6)]]
theorem nn_d258 : ab_dtok prog_14_method_58_code nn_dt258 = true := dw_ok (by decide +kernel)
def nn_dt259 : ab_DT := [[(0, .iload_n 3, 1, 0), (1, .aload_n 0, 1, 0), (2, .iload_n 1, 1, 0), (3, .invokevirtual 270, 3, 3), (6, .if_icmp .ge 12, 3, 2), (9, .iload_n 3, 1, 0), (10, .aload_n 0, 1, 0), (11, .iload_n 2, 1, 0), (12, .invokevirtual 270, 3, 3), (15, .if_icmp .lt 27, 3, 2)],
  [(18, .iload_n 3, 1, 0), (19, .aload_n 0, 1, 0), (20, .iload_n 1, 1, 0), (21, .invokevirtual 270, 3, 3), (24, .if_icmp .lt 16, 3, 2), (27, .iload_n 3, 1, 0), (28, .aload_n 0, 1, 0), (29, .iload_n 2, 1, 0), (30, .invokevirtual 270, 3, 3)],
  [(33, .if_icmp .lt 7, 3, 2), (36, .iconst 1, 1, 0), (37, .goto 4, 3, 2), (40, .iconst 0, 1, 0), (41, .ireturn, 1, 6), (42, .aload_n 0, 1, 0), (43, .iload_n 1, 1, 0), (44, .iload_n 3, 1, 0), (45, .iconst 0, 1, 0), (46, .invokevirtual 273, 3, 3)],
  [(49, .aload_n 0, 1, 0), (50, .iload_n 2, 1, 0), (51, .iload_n 3, 1, 0), (52, .iconst 0, 1, 0), (53, .invokevirtual 273, 3, 3), (56, .if_icmp .ne 7, 3, 2), (59, .iconst 1, 1, 0), (60, .goto 4, 3, 2), (63, .iconst 0, 1, 0)],
  [(64, .istore 5, 2, 0), (66, .aload_n 0, 1, 0), (67, .iload_n 1, 1, 0), (68, .iload_n 3, 1, 0), (69, .iconst 1, 1, 0), (70, .invokevirtual 273, 3, 3), (73, .aload_n 0, 1, 0), (74, .iload_n 2, 1, 0), (75, .iload_n 3, 1, 0), (76, .iconst 1, 1, 0), (77, .invokevirtual 273, 3, 3)],
  [(80, .if_icmp .ne 7, 3, 2), (83, .iconst 1, 1, 0), (84, .goto 4, 3, 2), (87, .iconst 0, 1, 0), (88, .istore 6, 2, 0), (90, .iload 4, 2, 0), (92, .iconst 3, 1, 0), (93, .if_icmp .ne 42, 3, 2)],
  [(96, .aload_n 0, 1, 0), (97, .iload_n 1, 1, 0), (98, .iload_n 3, 1, 0), (99, .iconst 0, 1, 0), (100, .invokevirtual 273, 3, 3), (103, .aload_n 0, 1, 0), (104, .iload_n 1, 1, 0), (105, .iconst 0, 1, 0), (106, .iconst 0, 1, 0), (107, .invokevirtual 273, 3, 3), (110, .isub, 1, 0), (111, .aload_n 0, 1, 0)],
  [(112, .iload_n 2, 1, 0), (113, .iload_n 3, 1, 0), (114, .iconst 0, 1, 0), (115, .invokevirtual 273, 3, 3), (118, .aload_n 0, 1, 0), (119, .iload_n 2, 1, 0), (120, .iconst 0, 1, 0), (121, .iconst 0, 1, 0), (122, .invokevirtual 273, 3, 3), (125, .isub, 1, 0), (126, .if_icmp .ne 7, 3, 2)],
  [(129, .iconst 1, 1, 0), (130, .goto 4, 3, 2), (133, .iconst 0, 1, 0), (134, .ireturn, 1, 6), (135, .iload 4, 2, 0), (137, .ifCond .ne 21, 3, 2), (140, .iload 5, 2, 0), (142, .ifCond .eq 12, 3, 2)],
  [(145, .iload 6, 2, 0), (147, .ifCond .eq 7, 3, 2), (150, .iconst 1, 1, 0), (151, .goto 20, 3, 2), (154, .iconst 0, 1, 0), (155, .goto 16, 3, 2), (158, .iload 4, 2, 0)],
  [(160, .iconst 1, 1, 0), (161, .if_icmp .ne 8, 3, 2), (164, .iload 5, 2, 0), (166, .goto 5, 3, 2), (169, .iload 6, 2, 0), (171, .ireturn, 1, 6)]]
theorem nn_d259 : ab_dtok prog_14_method_57_code nn_dt259 = true := dw_ok (by decide +kernel)
def nn_dt260 : ab_DT := [[(0, .aload_n 0, 1, 0), (1, .iconst 0, 1, 0), (2, .putfield 100, 3, 1), (5, .iload_n 1, 1, 0), (6, .iconst 1, 1, 0), (7, .bipush 9, 2, 0), (9, .invokestatic 171, 3, 3), (12, .ifCond .eq 18, 3, 2), (15, .iload_n 2, 1, 0)],
  [(16, .invokestatic 297, 3, 3), (19, .ifCond .eq 11, 3, 2), (22, .aload_n 0, 1, 0), (23, .iload_n 3, 1, 0), (24, .invokevirtual 300, 3, 3), (27, .ifCond .ne 5, 3, 2), (30, .iconst (-1), 1, 0), (31, .ireturn, 1, 6)],
  [(32, .iconst 0, 1, 0), (33, .istore 4, 2, 0), (35, .iconst 0, 1, 0), (36, .istore 5, 2, 0), (38, .iload 5, 2, 0), (40, .aload_n 0, 1, 0), (41, .invokevirtual 261, 3, 3), (44, .if_icmp .ge 48, 3, 2), (47, .aload_n 0, 1, 0)],
  [(48, .iload_n 3, 1, 0), (49, .invokevirtual 303, 3, 3), (52, .iload 5, 2, 0), (54, .invokestatic 216, 3, 3), (57, .ifCond .eq 29, 3, 2), (60, .aload_n 0, 1, 0), (61, .iload 5, 2, 0), (63, .iload_n 1, 1, 0)],
  [(64, .iload_n 2, 1, 0), (65, .aload_n 0, 1, 0), (66, .iload_n 3, 1, 0), (67, .invokevirtual 303, 3, 3), (70, .invokevirtual 306, 3, 3), (73, .iconst 1, 1, 0), (74, .iload 5, 2, 0), (76, .ishl, 1, 0), (77, .iconst 1, 1, 0), (78, .isub, 1, 0), (79, .iand, 1, 0)],
  [(80, .ifCond .ne 6, 3, 2), (83, .iinc 4 1, 3, 0), (86, .iinc 5 1, 3, 0), (89, .goto (-51), 3, 2), (92, .iload 4, 2, 0), (94, .ireturn, 1, 6)]]
theorem nn_d260 : ab_dtok prog_14_method_63_code nn_dt260 = true := dw_ok (by decide +kernel)
def nn_dt261 : ab_DT := [[(0, .aload_n 0, 1, 0), (1, .iconst 0, 1, 0), (2, .putfield 100, 3, 1), (5, .aload_n 0, 1, 0), (6, .iload_n 1, 1, 0), (7, .invokevirtual 267, 3, 3), (10, .ifCond .eq 44, 3, 2), (13, .iload_n 2, 1, 0), (14, .invokestatic 297, 3, 3)],
  [(17, .ifCond .eq 37, 3, 2), (20, .aload_n 0, 1, 0), (21, .iload_n 3, 1, 0), (22, .invokevirtual 300, 3, 3), (25, .ifCond .eq 29, 3, 2), (28, .aload_n 0, 1, 0), (29, .iload_n 3, 1, 0), (30, .invokevirtual 303, 3, 3)],
  [(33, .iload_n 1, 1, 0), (34, .invokestatic 216, 3, 3), (37, .ifCond .eq 17, 3, 2), (40, .aload_n 0, 1, 0), (41, .iload_n 1, 1, 0), (42, .iload_n 2, 1, 0), (43, .aload_n 0, 1, 0), (44, .iload_n 3, 1, 0), (45, .invokevirtual 303, 3, 3)],
  [(48, .invokevirtual 310, 3, 3), (51, .goto 4, 3, 2), (54, .iconst (-1), 1, 0), (55, .ireturn, 1, 6)]]
theorem nn_d261 : ab_dtok prog_14_method_65_code nn_dt261 = true := dw_ok (by decide +kernel)
def nn_dt262 : ab_DT := [[(0, .iconst 0, 1, 0), (1, .istore 4, 2, 0), (3, .iconst 0, 1, 0), (4, .istore 5, 2, 0), (6, .iload 5, 2, 0), (8, .aload_n 0, 1, 0), (9, .invokevirtual 261, 3, 3), (12, .if_icmp .ge 51, 3, 2), (15, .iload 5, 2, 0)],
  [(17, .iload_n 1, 1, 0), (18, .if_icmp .eq 39, 3, 2), (21, .iload_n 3, 1, 0), (22, .iload 5, 2, 0), (24, .invokestatic 216, 3, 3), (27, .ifCond .eq 30, 3, 2), (30, .aload_n 0, 1, 0), (31, .iload_n 1, 1, 0)],
  [(32, .iload 5, 2, 0), (34, .iload_n 2, 1, 0), (35, .invokevirtual 291, 3, 3), (38, .iconst 1, 1, 0), (39, .iadd, 1, 0), (40, .iload 4, 2, 0), (42, .if_icmp .le 15, 3, 2), (45, .aload_n 0, 1, 0), (46, .iload_n 1, 1, 0), (47, .iload 5, 2, 0)],
  [(49, .iload_n 2, 1, 0), (50, .invokevirtual 291, 3, 3), (53, .iconst 1, 1, 0), (54, .iadd, 1, 0), (55, .istore 4, 2, 0), (57, .iinc 5 1, 3, 0), (60, .goto (-54), 3, 2), (63, .iload 4, 2, 0)],
  [(65, .bipush 9, 2, 0), (67, .if_icmp .le 7, 3, 2), (70, .iconst (-1), 1, 0), (71, .goto 14, 3, 2), (74, .iload 4, 2, 0), (76, .ifCond .ne 7, 3, 2), (79, .iconst 1, 1, 0)],
  [(80, .goto 5, 3, 2), (83, .iload 4, 2, 0), (85, .ireturn, 1, 6)]]
theorem nn_d262 : ab_dtok prog_14_method_64_code nn_dt262 = true := dw_ok (by decide +kernel)
def nn_dt263 : ab_DT := [[(0, .aload_n 0, 1, 0), (1, .iconst 0, 1, 0), (2, .putfield 100, 3, 1), (5, .iload_n 1, 1, 0), (6, .invokestatic 297, 3, 3), (9, .ifCond .eq 11, 3, 2), (12, .aload_n 0, 1, 0), (13, .iload_n 2, 1, 0), (14, .invokevirtual 264, 3, 3)],
  [(17, .ifCond .ne 5, 3, 2), (20, .iconst (-1), 1, 0), (21, .ireturn, 1, 6), (22, .iconst (-1), 1, 0), (23, .istore_n 3, 1, 0), (24, .iconst 0, 1, 0), (25, .istore 4, 2, 0), (27, .iconst 0, 1, 0), (28, .istore 5, 2, 0), (30, .iload 5, 2, 0)],
  [(32, .aload_n 0, 1, 0), (33, .invokevirtual 261, 3, 3), (36, .if_icmp .ge 66, 3, 2), (39, .aload_n 0, 1, 0), (40, .iload_n 2, 1, 0), (41, .invokevirtual 303, 3, 3), (44, .iload 5, 2, 0), (46, .invokestatic 216, 3, 3)],
  [(49, .ifCond .ne 6, 3, 2), (52, .goto 44, 3, 2), (55, .aload_n 0, 1, 0), (56, .iload 5, 2, 0), (58, .iload_n 1, 1, 0), (59, .aload_n 0, 1, 0), (60, .iload_n 2, 1, 0), (61, .invokevirtual 303, 3, 3)],
  [(64, .invokevirtual 310, 3, 3), (67, .istore 6, 2, 0), (69, .iload 6, 2, 0), (71, .iconst (-1), 1, 0), (72, .if_icmp .ne 7, 3, 2), (75, .bipush 10, 2, 0), (77, .istore 6, 2, 0), (79, .iload 6, 2, 0)],
  [(81, .iload 4, 2, 0), (83, .if_icmp .gt 6, 3, 2), (86, .goto 10, 3, 2), (89, .iload 5, 2, 0), (91, .istore_n 3, 1, 0), (92, .iload 6, 2, 0), (94, .istore 4, 2, 0)],
  [(96, .iinc 5 1, 3, 0), (99, .goto (-69), 3, 2), (102, .iload_n 3, 1, 0), (103, .ireturn, 1, 6)]]
theorem nn_d263 : ab_dtok prog_14_method_66_code nn_dt263 = true := dw_ok (by decide +kernel)
def nn_dt264 : ab_DT := [[(0, .aload_n 0, 1, 0), (1, .iconst 0, 1, 0), (2, .putfield 100, 3, 1), (5, .iload_n 1, 1, 0), (6, .iconst 1, 1, 0), (7, .bipush 9, 2, 0), (9, .invokestatic 171, 3, 3), (12, .ifCond .eq 18, 3, 2), (15, .iload_n 2, 1, 0)],
  [(16, .invokestatic 297, 3, 3), (19, .ifCond .eq 11, 3, 2), (22, .aload_n 0, 1, 0), (23, .iload_n 3, 1, 0), (24, .invokevirtual 300, 3, 3), (27, .ifCond .ne 5, 3, 2), (30, .iconst (-1), 1, 0), (31, .ireturn, 1, 6)],
  [(32, .iconst 0, 1, 0), (33, .istore 5, 2, 0), (35, .iconst 0, 1, 0), (36, .istore 6, 2, 0), (38, .iload 6, 2, 0), (40, .aload_n 0, 1, 0), (41, .invokevirtual 261, 3, 3), (44, .if_icmp .ge 91, 3, 2), (47, .iload 6, 2, 0)],
  [(49, .iconst 1, 1, 0), (50, .iadd, 1, 0), (51, .istore 7, 2, 0), (53, .iload 7, 2, 0), (55, .aload_n 0, 1, 0), (56, .invokevirtual 261, 3, 3), (59, .if_icmp .ge 70, 3, 2), (62, .aload_n 0, 1, 0), (63, .iload_n 3, 1, 0)],
  [(64, .invokevirtual 303, 3, 3), (67, .iload 6, 2, 0), (69, .invokestatic 216, 3, 3), (72, .ifCond .eq 51, 3, 2), (75, .aload_n 0, 1, 0), (76, .iload_n 3, 1, 0), (77, .invokevirtual 303, 3, 3)],
  [(80, .iload 7, 2, 0), (82, .invokestatic 216, 3, 3), (85, .ifCond .eq 38, 3, 2), (88, .aload_n 0, 1, 0), (89, .iload 6, 2, 0), (91, .iload 7, 2, 0), (93, .iload_n 1, 1, 0), (94, .iload_n 2, 1, 0), (95, .invokevirtual 294, 3, 3)],
  [(98, .ifCond .ne 6, 3, 2), (101, .goto 22, 3, 2), (104, .iload 5, 2, 0), (106, .iload 4, 2, 0), (108, .if_icmp .ne 12, 3, 2), (111, .bipush 10, 2, 0)],
  [(113, .iload 6, 2, 0), (115, .imul, 1, 0), (116, .iload 7, 2, 0), (118, .iadd, 1, 0), (119, .ireturn, 1, 6), (120, .iinc 5 1, 3, 0), (123, .iinc 7 1, 3, 0), (126, .goto (-73), 3, 2)],
  [(129, .iinc 6 1, 3, 0), (132, .goto (-94), 3, 2), (135, .iload 4, 2, 0), (137, .iconst (-1), 1, 0), (138, .if_icmp .ne 8, 3, 2), (141, .iload 5, 2, 0), (143, .goto 4, 3, 2)],
  [(146, .iconst (-1), 1, 0), (147, .ireturn, 1, 6)]]
theorem nn_d264 : ab_dtok prog_14_method_67_code nn_dt264 = true := dw_ok (by decide +kernel)
def nn_dt265 : ab_DT := [[(0, .aload_n 0, 1, 0), (1, .iconst 0, 1, 0), (2, .putfield 100, 3, 1), (5, .aload_n 0, 1, 0), (6, .iload_n 1, 1, 0), (7, .invokevirtual 267, 3, 3), (10, .ifCond .eq 28, 3, 2), (13, .aload_n 0, 1, 0), (14, .iload_n 2, 1, 0), (15, .invokevirtual 267, 3, 3)],
  [(18, .ifCond .eq 20, 3, 2), (21, .iload_n 3, 1, 0), (22, .invokestatic 297, 3, 3), (25, .ifCond .eq 13, 3, 2), (28, .aload_n 0, 1, 0), (29, .iload_n 1, 1, 0), (30, .iload_n 2, 1, 0), (31, .iload_n 3, 1, 0)],
  [(32, .invokevirtual 291, 3, 3), (35, .goto 4, 3, 2), (38, .iconst (-1), 1, 0), (39, .ireturn, 1, 6)]]
theorem nn_d265 : ab_dtok prog_14_method_68_code nn_dt265 = true := dw_ok (by decide +kernel)
def nn_dt266 : ab_DT := [[(0, .aload_n 0, 1, 0), (1, .iconst 0, 1, 0), (2, .putfield 100, 3, 1), (5, .aload_n 0, 1, 0), (6, .iload_n 1, 1, 0), (7, .invokevirtual 267, 3, 3), (10, .ifCond .eq 20, 3, 2), (13, .aload_n 0, 1, 0), (14, .iload_n 2, 1, 0), (15, .invokevirtual 267, 3, 3)],
  [(18, .ifCond .eq 12, 3, 2), (21, .aload_n 0, 1, 0), (22, .iload_n 1, 1, 0), (23, .iload_n 2, 1, 0), (24, .invokevirtual 319, 3, 3), (27, .goto 4, 3, 2), (30, .iconst (-1), 1, 0), (31, .ireturn, 1, 6)]]
theorem nn_d266 : ab_dtok prog_14_method_71_code nn_dt266 = true := dw_ok (by decide +kernel)
def nn_dt267 : ab_DT := [[(0, .iconst 0, 1, 0), (1, .istore_n 3, 1, 0), (2, .iload_n 3, 1, 0), (3, .aload_n 0, 1, 0), (4, .iload_n 2, 1, 0), (5, .invokevirtual 270, 3, 3), (8, .if_icmp .gt 16, 3, 2), (11, .aload_n 0, 1, 0), (12, .getfield 42, 3, 1), (15, .iload_n 3, 1, 0)],
  [(16, .iload_n 3, 1, 0), (17, .iastore, 1, 1), (18, .iinc 3 1, 3, 0), (21, .goto (-19), 3, 2), (24, .iconst 1, 1, 0), (25, .istore_n 3, 1, 0), (26, .iload_n 3, 1, 0), (27, .aload_n 0, 1, 0), (28, .iload_n 1, 1, 0), (29, .invokevirtual 270, 3, 3)],
  [(32, .if_icmp .gt 140, 3, 2), (35, .aload_n 0, 1, 0), (36, .getfield 45, 3, 1), (39, .iconst 0, 1, 0), (40, .iload_n 3, 1, 0), (41, .iastore, 1, 1), (42, .iconst 1, 1, 0), (43, .istore 4, 2, 0), (45, .iload 4, 2, 0), (47, .aload_n 0, 1, 0)],
  [(48, .iload_n 2, 1, 0), (49, .invokevirtual 270, 3, 3), (52, .if_icmp .gt 81, 3, 2), (55, .aload_n 0, 1, 0), (56, .getfield 42, 3, 1), (59, .iload 4, 2, 0), (61, .iconst 1, 1, 0), (62, .isub, 1, 0), (63, .iaload, 1, 1)],
  [(64, .aload_n 0, 1, 0), (65, .iload_n 1, 1, 0), (66, .iload_n 3, 1, 0), (67, .iconst 1, 1, 0), (68, .isub, 1, 0), (69, .iload_n 2, 1, 0), (70, .iload 4, 2, 0), (72, .iconst 1, 1, 0), (73, .isub, 1, 0), (74, .invokevirtual 313, 3, 3), (77, .ifCond .eq 7, 3, 2)],
  [(80, .iconst 0, 1, 0), (81, .goto 4, 3, 2), (84, .iconst 1, 1, 0), (85, .iadd, 1, 0), (86, .istore 5, 2, 0), (88, .iload 5, 2, 0), (90, .aload_n 0, 1, 0), (91, .getfield 42, 3, 1), (94, .iload 4, 2, 0)],
  [(96, .iaload, 1, 1), (97, .iconst 1, 1, 0), (98, .iadd, 1, 0), (99, .invokestatic 316, 3, 3), (102, .istore 5, 2, 0), (104, .aload_n 0, 1, 0), (105, .getfield 45, 3, 1), (108, .iload 4, 2, 0), (110, .iload 5, 2, 0)],
  [(112, .aload_n 0, 1, 0), (113, .getfield 45, 3, 1), (116, .iload 4, 2, 0), (118, .iconst 1, 1, 0), (119, .isub, 1, 0), (120, .iaload, 1, 1), (121, .iconst 1, 1, 0), (122, .iadd, 1, 0), (123, .invokestatic 316, 3, 3), (126, .iastore, 1, 1), (127, .iinc 4 1, 3, 0)],
  [(130, .goto (-85), 3, 2), (133, .iconst 0, 1, 0), (134, .istore 4, 2, 0), (136, .iload 4, 2, 0), (138, .aload_n 0, 1, 0), (139, .iload_n 2, 1, 0), (140, .invokevirtual 270, 3, 3), (143, .if_icmp .gt 23, 3, 2)],
  [(146, .aload_n 0, 1, 0), (147, .getfield 42, 3, 1), (150, .iload 4, 2, 0), (152, .aload_n 0, 1, 0), (153, .getfield 45, 3, 1), (156, .iload 4, 2, 0), (158, .iaload, 1, 1), (159, .iastore, 1, 1)],
  [(160, .iinc 4 1, 3, 0), (163, .goto (-27), 3, 2), (166, .iinc 3 1, 3, 0), (169, .goto (-143), 3, 2), (172, .aload_n 0, 1, 0), (173, .getfield 42, 3, 1)],
  [(176, .aload_n 0, 1, 0), (177, .iload_n 2, 1, 0), (178, .invokevirtual 270, 3, 3), (181, .iaload, 1, 1), (182, .ireturn, 1, 6)]]
theorem nn_d267 : ab_dtok prog_14_method_69_code nn_dt267 = true := dw_ok (by decide +kernel)
def nn_dt268 : ab_DT := [[(0, .aload_n 0, 1, 0), (1, .iload_n 1, 1, 0), (2, .iload_n 2, 1, 0), (3, .iconst 0, 1, 0), (4, .invokevirtual 273, 3, 3), (7, .aload_n 0, 1, 0), (8, .iload_n 3, 1, 0), (9, .iload 4, 2, 0), (11, .iconst 0, 1, 0), (12, .invokevirtual 273, 3, 3), (15, .if_icmp .ne 25, 3, 2)],
  [(18, .aload_n 0, 1, 0), (19, .iload_n 1, 1, 0), (20, .iload_n 2, 1, 0), (21, .iconst 1, 1, 0), (22, .invokevirtual 273, 3, 3), (25, .aload_n 0, 1, 0), (26, .iload_n 3, 1, 0), (27, .iload 4, 2, 0), (29, .iconst 1, 1, 0), (30, .invokevirtual 273, 3, 3)],
  [(33, .if_icmp .ne 7, 3, 2), (36, .iconst 1, 1, 0), (37, .goto 4, 3, 2), (40, .iconst 0, 1, 0), (41, .ireturn, 1, 6)]]
theorem nn_d268 : ab_dtok prog_14_method_70_code nn_dt268 = true := dw_ok (by decide +kernel)
def nn_dt269 : ab_DT := [[(0, .iload_n 0, 1, 0), (1, .iload_n 1, 1, 0), (2, .if_icmp .ge 7, 3, 2), (5, .iload_n 0, 1, 0), (6, .goto 4, 3, 2), (9, .iload_n 1, 1, 0), (10, .ireturn, 1, 6)]]
theorem nn_d269 : ab_dtok prog_14_method_11_code nn_dt269 = true := dw_ok (by decide +kernel)
def nn_dt270 : ab_DT := [[(0, .aload_n 0, 1, 0), (1, .iconst 0, 1, 0), (2, .putfield 100, 3, 1), (5, .aload_n 0, 1, 0), (6, .iload_n 1, 1, 0), (7, .invokevirtual 267, 3, 3), (10, .ifCond .eq 11, 3, 2), (13, .aload_n 0, 1, 0), (14, .iload_n 2, 1, 0), (15, .invokevirtual 300, 3, 3)],
  [(18, .ifCond .ne 5, 3, 2), (21, .iconst (-1), 1, 0), (22, .ireturn, 1, 6), (23, .iconst (-1), 1, 0), (24, .istore_n 3, 1, 0), (25, .iconst 0, 1, 0), (26, .istore 4, 2, 0), (28, .iload 4, 2, 0), (30, .aload_n 0, 1, 0), (31, .invokevirtual 261, 3, 3)],
  [(34, .if_icmp .ge 52, 3, 2), (37, .iload 4, 2, 0), (39, .iload_n 1, 1, 0), (40, .if_icmp .eq 40, 3, 2), (43, .aload_n 0, 1, 0), (44, .iload_n 2, 1, 0), (45, .invokevirtual 303, 3, 3)],
  [(48, .iload 4, 2, 0), (50, .invokestatic 216, 3, 3), (53, .ifCond .eq 27, 3, 2), (56, .iload_n 3, 1, 0), (57, .iconst (-1), 1, 0), (58, .if_icmp .eq 19, 3, 2), (61, .aload_n 0, 1, 0), (62, .iload_n 1, 1, 0), (63, .iload 4, 2, 0)],
  [(65, .invokevirtual 319, 3, 3), (68, .aload_n 0, 1, 0), (69, .iload_n 1, 1, 0), (70, .iload_n 3, 1, 0), (71, .invokevirtual 319, 3, 3), (74, .if_icmp .ge 6, 3, 2), (77, .iload 4, 2, 0), (79, .istore_n 3, 1, 0)],
  [(80, .iinc 4 1, 3, 0), (83, .goto (-55), 3, 2), (86, .iload_n 3, 1, 0), (87, .ireturn, 1, 6)]]
theorem nn_d270 : ab_dtok prog_14_method_72_code nn_dt270 = true := dw_ok (by decide +kernel)
def nn_dt271 : ab_DT := [[(0, .aload_n 0, 1, 0), (1, .iconst 0, 1, 0), (2, .putfield 100, 3, 1), (5, .aload_n 0, 1, 0), (6, .iload_n 1, 1, 0), (7, .invokevirtual 267, 3, 3), (10, .ifCond .eq 12, 3, 2), (13, .iload_n 2, 1, 0), (14, .iconst 0, 1, 0), (15, .iconst 3, 1, 0)],
  [(16, .invokestatic 171, 3, 3), (19, .ifCond .ne 5, 3, 2), (22, .iconst (-1), 1, 0), (23, .ireturn, 1, 6), (24, .iconst 0, 1, 0), (25, .istore_n 3, 1, 0), (26, .iload_n 3, 1, 0), (27, .aload_n 0, 1, 0), (28, .invokevirtual 261, 3, 3), (31, .if_icmp .ge 79, 3, 2)],
  [(34, .iconst 0, 1, 0), (35, .istore 4, 2, 0), (37, .iconst 0, 1, 0), (38, .istore 5, 2, 0), (40, .iload 5, 2, 0), (42, .aload_n 0, 1, 0), (43, .invokevirtual 261, 3, 3), (46, .if_icmp .ge 50, 3, 2)],
  [(49, .aload_n 0, 1, 0), (50, .iload 5, 2, 0), (52, .iload_n 2, 1, 0), (53, .invokevirtual 277, 3, 3), (56, .aload_n 0, 1, 0), (57, .iload_n 3, 1, 0), (58, .iload_n 2, 1, 0), (59, .invokevirtual 277, 3, 3), (62, .if_icmp .lt 25, 3, 2)],
  [(65, .aload_n 0, 1, 0), (66, .iload 5, 2, 0), (68, .iload_n 2, 1, 0), (69, .invokevirtual 277, 3, 3), (72, .aload_n 0, 1, 0), (73, .iload_n 3, 1, 0), (74, .iload_n 2, 1, 0), (75, .invokevirtual 277, 3, 3), (78, .if_icmp .ne 12, 3, 2)],
  [(81, .iload 5, 2, 0), (83, .iload_n 3, 1, 0), (84, .if_icmp .ge 6, 3, 2), (87, .iinc 4 1, 3, 0), (90, .iinc 5 1, 3, 0), (93, .goto (-53), 3, 2)],
  [(96, .iload 4, 2, 0), (98, .iload_n 1, 1, 0), (99, .if_icmp .ne 5, 3, 2), (102, .iload_n 3, 1, 0), (103, .ireturn, 1, 6), (104, .iinc 3 1, 3, 0), (107, .goto (-81), 3, 2), (110, .iconst (-1), 1, 0), (111, .ireturn, 1, 6)]]
theorem nn_d271 : ab_dtok prog_14_method_73_code nn_dt271 = true := dw_ok (by decide +kernel)
def nn_dt272 : ab_DT := [[(0, .aload_n 0, 1, 0), (1, .iconst 0, 1, 0), (2, .putfield 100, 3, 1), (5, .iconst (-1), 1, 0), (6, .istore_n 1, 1, 0), (7, .iconst 0, 1, 0), (8, .istore_n 2, 1, 0), (9, .iconst 0, 1, 0), (10, .istore_n 3, 1, 0), (11, .iload_n 3, 1, 0), (12, .bipush 25, 2, 0), (14, .if_icmp .ge 80, 3, 2)],
  [(17, .iconst 0, 1, 0), (18, .istore 4, 2, 0), (20, .iconst 0, 1, 0), (21, .istore 5, 2, 0), (23, .iload 5, 2, 0), (25, .aload_n 0, 1, 0), (26, .invokevirtual 261, 3, 3), (29, .if_icmp .ge 45, 3, 2)],
  [(32, .iconst 0, 1, 0), (33, .istore 6, 2, 0), (35, .iload 6, 2, 0), (37, .aload_n 0, 1, 0), (38, .iload 5, 2, 0), (40, .invokevirtual 270, 3, 3), (43, .if_icmp .ge 25, 3, 2), (46, .aload_n 0, 1, 0), (47, .iload 5, 2, 0)],
  [(49, .iload 6, 2, 0), (51, .iconst 0, 1, 0), (52, .invokevirtual 273, 3, 3), (55, .iload_n 3, 1, 0), (56, .if_icmp .ne 6, 3, 2), (59, .iinc 4 1, 3, 0), (62, .iinc 6 1, 3, 0)],
  [(65, .goto (-30), 3, 2), (68, .iinc 5 1, 3, 0), (71, .goto (-48), 3, 2), (74, .iload 4, 2, 0), (76, .iload_n 2, 1, 0), (77, .if_icmp .gt 6, 3, 2)],
  [(80, .goto 8, 3, 2), (83, .iload_n 3, 1, 0), (84, .istore_n 1, 1, 0), (85, .iload 4, 2, 0), (87, .istore_n 2, 1, 0), (88, .iinc 3 1, 3, 0), (91, .goto (-80), 3, 2), (94, .iload_n 1, 1, 0), (95, .ireturn, 1, 6)]]
theorem nn_d272 : ab_dtok prog_14_method_74_code nn_dt272 = true := dw_ok (by decide +kernel)
def nn_dt273 : ab_DT := [[(0, .aload_n 0, 1, 0), (1, .iconst 0, 1, 0), (2, .putfield 100, 3, 1), (5, .iconst (-1), 1, 0), (6, .istore_n 1, 1, 0), (7, .iconst 0, 1, 0), (8, .istore_n 2, 1, 0), (9, .iload_n 2, 1, 0), (10, .iconst 1, 1, 0), (11, .aload_n 0, 1, 0), (12, .getfield 13, 3, 1), (15, .iconst 1, 1, 0)],
  [(16, .iaload, 1, 1), (17, .ishl, 1, 0), (18, .if_icmp .ge 81, 3, 2), (21, .iconst 0, 1, 0), (22, .istore_n 3, 1, 0), (23, .iconst 0, 1, 0), (24, .istore 4, 2, 0), (26, .iload 4, 2, 0), (28, .aload_n 0, 1, 0), (29, .getfield 13, 3, 1)],
  [(32, .iconst 1, 1, 0), (33, .iaload, 1, 1), (34, .if_icmp .ge 32, 3, 2), (37, .iload_n 2, 1, 0), (38, .iload 4, 2, 0), (40, .invokestatic 216, 3, 3), (43, .ifCond .eq 17, 3, 2), (46, .iload_n 3, 1, 0), (47, .aload_n 0, 1, 0)],
  [(48, .getfield 13, 3, 1), (51, .sipush 176, 3, 0), (54, .iload 4, 2, 0), (56, .iadd, 1, 0), (57, .iaload, 1, 1), (58, .ior, 1, 0), (59, .istore_n 3, 1, 0), (60, .iinc 4 1, 3, 0), (63, .goto (-37), 3, 2)],
  [(66, .iload_n 3, 1, 0), (67, .aload_n 0, 1, 0), (68, .iconst (-1), 1, 0), (69, .invokevirtual 303, 3, 3), (72, .if_icmp .ne 21, 3, 2), (75, .iload_n 1, 1, 0), (76, .iconst (-1), 1, 0), (77, .if_icmp .eq 14, 3, 2)],
  [(80, .iload_n 2, 1, 0), (81, .invokestatic 322, 3, 3), (84, .iload_n 1, 1, 0), (85, .invokestatic 322, 3, 3), (88, .if_icmp .ge 5, 3, 2), (91, .iload_n 2, 1, 0), (92, .istore_n 1, 1, 0), (93, .iinc 2 1, 3, 0)],
  [(96, .goto (-87), 3, 2), (99, .iload_n 1, 1, 0), (100, .ireturn, 1, 6)]]
theorem nn_d273 : ab_dtok prog_14_method_75_code nn_dt273 = true := dw_ok (by decide +kernel)
def nn_dt274 : ab_DT := [[(0, .iconst 0, 1, 0), (1, .istore_n 1, 1, 0), (2, .iload_n 0, 1, 0), (3, .istore_n 2, 1, 0), (4, .iload_n 2, 1, 0), (5, .ifCond .eq 15, 3, 2), (8, .iinc 1 1, 3, 0), (11, .iload_n 2, 1, 0), (12, .iload_n 2, 1, 0), (13, .iconst 1, 1, 0), (14, .isub, 1, 0), (15, .iand, 1, 0)],
  [(16, .istore_n 2, 1, 0), (17, .goto (-13), 3, 2), (20, .iload_n 1, 1, 0), (21, .ireturn, 1, 6)]]
theorem nn_d274 : ab_dtok prog_14_method_10_code nn_dt274 = true := dw_ok (by decide +kernel)
def nn_dt275 : ab_DT := [[(0, .aload_n 0, 1, 0), (1, .iload_n 1, 1, 0), (2, .iload_n 3, 1, 0), (3, .iload 4, 2, 0), (5, .invokevirtual 342, 3, 3), (8, .ifCond .eq 34, 3, 2), (11, .aload_n 0, 1, 0), (12, .iload_n 2, 1, 0), (13, .invokevirtual 267, 3, 3)],
  [(16, .ifCond .eq 26, 3, 2), (19, .aload_n 0, 1, 0), (20, .iload 4, 2, 0), (22, .invokevirtual 303, 3, 3), (25, .iload_n 2, 1, 0), (26, .invokestatic 216, 3, 3), (29, .ifCond .eq 13, 3, 2)],
  [(32, .iload 5, 2, 0), (34, .iconst 0, 1, 0), (35, .iconst 1, 1, 0), (36, .invokestatic 171, 3, 3), (39, .ifCond .ne 8, 3, 2), (42, .aload_n 0, 1, 0), (43, .invokevirtual 345, 3, 3), (46, .lreturn, 1, 6), (47, .aload_n 0, 1, 0)],
  [(48, .iload_n 1, 1, 0), (49, .invokevirtual 335, 3, 3), (52, .aload_n 0, 1, 0), (53, .aload_n 0, 1, 0), (54, .iload_n 2, 1, 0), (55, .iload_n 3, 1, 0), (56, .aload_n 0, 1, 0), (57, .iload 4, 2, 0), (59, .invokevirtual 303, 3, 3), (62, .invokevirtual 331, 3, 3)],
  [(65, .ldc2_w 349, 3, 0), (68, .iload 5, 2, 0), (70, .invokevirtual 351, 3, 3), (73, .lreturn, 1, 6)]]
theorem nn_d275 : ab_dtok prog_14_method_81_code nn_dt275 = true := dw_ok (by decide +kernel)
def nn_dt276 : ab_DT := [[(0, .aload_n 0, 1, 0), (1, .iload_n 1, 1, 0), (2, .invokevirtual 281, 3, 3), (5, .ifCond .eq 25, 3, 2), (8, .iload_n 2, 1, 0), (9, .iconst 1, 1, 0), (10, .bipush 9, 2, 0), (12, .invokestatic 171, 3, 3), (15, .ifCond .eq 15, 3, 2)],
  [(18, .aload_n 0, 1, 0), (19, .iload_n 3, 1, 0), (20, .invokevirtual 264, 3, 3), (23, .ifCond .eq 7, 3, 2), (26, .iconst 1, 1, 0), (27, .goto 4, 3, 2), (30, .iconst 0, 1, 0), (31, .ireturn, 1, 6)]]
theorem nn_d276 : ab_dtok prog_14_method_80_code nn_dt276 = true := dw_ok (by decide +kernel)
def nn_dt277 : ab_DT := [[(0, .aload_n 0, 1, 0), (1, .iconst 1, 1, 0), (2, .putfield 100, 3, 1), (5, .lconst 0, 1, 0), (6, .lreturn, 1, 6)]]
theorem nn_d277 : ab_dtok prog_14_method_3_code nn_dt277 = true := dw_ok (by decide +kernel)
def nn_dt278 : ab_DT := [[(0, .iconst 0, 1, 0), (1, .istore_n 2, 1, 0), (2, .iload_n 2, 1, 0), (3, .bipush 9, 2, 0), (5, .if_icmp .ge 21, 3, 2), (8, .aload_n 0, 1, 0), (9, .getfield 48, 3, 1), (12, .iload_n 2, 1, 0), (13, .aload_n 0, 1, 0), (14, .iload_n 1, 1, 0), (15, .iload_n 2, 1, 0)],
  [(16, .invokevirtual 284, 3, 3), (19, .iastore, 1, 1), (20, .iinc 2 1, 3, 0), (23, .goto (-21), 3, 2), (26, .return_, 1, 6)]]
theorem nn_d278 : ab_dtok prog_14_method_76_code nn_dt278 = true := dw_ok (by decide +kernel)
def nn_dt279 : ab_DT := [[(0, .aload_n 0, 1, 0), (1, .iload_n 1, 1, 0), (2, .iload_n 2, 1, 0), (3, .iconst 0, 1, 0), (4, .iload_n 3, 1, 0), (5, .invokevirtual 306, 3, 3), (8, .iconst 1, 1, 0), (9, .iload_n 1, 1, 0), (10, .ishl, 1, 0), (11, .iconst (-1), 1, 0), (12, .ixor, 1, 0), (13, .iand, 1, 0), (14, .istore 4, 2, 0)],
  [(16, .aload_n 0, 1, 0), (17, .getfield 51, 3, 1), (20, .iconst 0, 1, 0), (21, .ldc2_w 325, 3, 0), (24, .lastore, 1, 1), (25, .iconst 0, 1, 0), (26, .istore 5, 2, 0), (28, .iconst 0, 1, 0), (29, .istore 6, 2, 0), (31, .iload 6, 2, 0)],
  [(33, .aload_n 0, 1, 0), (34, .invokevirtual 261, 3, 3), (37, .if_icmp .ge 110, 3, 2), (40, .iload 4, 2, 0), (42, .iload 6, 2, 0), (44, .invokestatic 216, 3, 3), (47, .ifCond .ne 6, 3, 2)],
  [(50, .goto 91, 3, 2), (53, .iinc 5 1, 3, 0), (56, .aload_n 0, 1, 0), (57, .getfield 51, 3, 1), (60, .iload 5, 2, 0), (62, .lconst 0, 1, 0), (63, .lastore, 1, 1)],
  [(64, .iload 5, 2, 0), (66, .istore 7, 2, 0), (68, .iload 7, 2, 0), (70, .ifCond .lt 71, 3, 2), (73, .aload_n 0, 1, 0), (74, .getfield 51, 3, 1), (77, .iload 7, 2, 0), (79, .aload_n 0, 1, 0)],
  [(80, .getfield 51, 3, 1), (83, .iload 7, 2, 0), (85, .laload, 1, 1), (86, .ldc2_w 327, 3, 0), (89, .ldiv, 1, 0), (90, .bipush 9, 2, 0), (92, .aload_n 0, 1, 0), (93, .getfield 48, 3, 1)],
  [(96, .iload 6, 2, 0), (98, .iaload, 1, 1), (99, .isub, 1, 0), (100, .i2l, 1, 0), (101, .lmul, 1, 0), (102, .iload 7, 2, 0), (104, .ifCond .le 28, 3, 2), (107, .aload_n 0, 1, 0), (108, .getfield 51, 3, 1), (111, .iload 7, 2, 0)],
  [(113, .iconst 1, 1, 0), (114, .isub, 1, 0), (115, .laload, 1, 1), (116, .ldc2_w 327, 3, 0), (119, .ldiv, 1, 0), (120, .aload_n 0, 1, 0), (121, .getfield 48, 3, 1), (124, .iload 6, 2, 0), (126, .iaload, 1, 1), (127, .i2l, 1, 0)],
  [(128, .lmul, 1, 0), (129, .goto 4, 3, 2), (132, .lconst 0, 1, 0), (133, .ladd, 1, 0), (134, .lastore, 1, 1), (135, .iinc 7 (-1), 3, 0), (138, .goto (-70), 3, 2), (141, .iinc 6 1, 3, 0)],
  [(144, .goto (-113), 3, 2), (147, .lconst 0, 1, 0), (148, .lstore 6, 2, 0), (150, .iconst 0, 1, 0), (151, .istore 8, 2, 0), (153, .iload 8, 2, 0), (155, .iload 5, 2, 0), (157, .if_icmp .gt 31, 3, 2)],
  [(160, .lload 6, 2, 0), (162, .aload_n 0, 1, 0), (163, .getfield 51, 3, 1), (166, .iload 8, 2, 0), (168, .laload, 1, 1), (169, .ldc2_w 329, 3, 0), (172, .iload 8, 2, 0), (174, .iconst 1, 1, 0), (175, .iadd, 1, 0)],
  [(176, .i2l, 1, 0), (177, .ldiv, 1, 0), (178, .lmul, 1, 0), (179, .ladd, 1, 0), (180, .lstore 6, 2, 0), (182, .iinc 8 1, 3, 0), (185, .goto (-32), 3, 2), (188, .lload 6, 2, 0), (190, .aload_n 0, 1, 0), (191, .getfield 48, 3, 1)],
  [(194, .iload_n 1, 1, 0), (195, .iaload, 1, 1), (196, .i2l, 1, 0), (197, .lmul, 1, 0), (198, .lreturn, 1, 6)]]
theorem nn_d279 : ab_dtok prog_14_method_77_code nn_dt279 = true := dw_ok (by decide +kernel)
def nn_DT_240 : List ab_DT := [nn_dt240, nn_dt241, nn_dt242, nn_dt243, nn_dt244, nn_dt245, nn_dt246, nn_dt247, nn_dt248, nn_dt249, nn_dt250, nn_dt251, nn_dt252, nn_dt253, nn_dt254, nn_dt255, nn_dt256, nn_dt257, nn_dt258, nn_dt259, nn_dt260, nn_dt261, nn_dt262, nn_dt263, nn_dt264, nn_dt265, nn_dt266, nn_dt267, nn_dt268, nn_dt269, nn_dt270, nn_dt271, nn_dt272, nn_dt273, nn_dt274, nn_dt275, nn_dt276, nn_dt277, nn_dt278, nn_dt279]
theorem nn_DT_240_ok : ab_dtP nn_MT_240 nn_DT_240 := ⟨nn_d240, nn_d241, nn_d242, nn_d243, nn_d244, nn_d245, nn_d246, nn_d247, nn_d248, nn_d249, nn_d250, nn_d251, nn_d252, nn_d253, nn_d254, nn_d255, nn_d256, nn_d257, nn_d258, nn_d259, nn_d260, nn_d261, nn_d262, nn_d263, nn_d264, nn_d265, nn_d266, nn_d267, nn_d268, nn_d269, nn_d270, nn_d271, nn_d272, nn_d273, nn_d274, nn_d275, nn_d276, nn_d277, nn_d278, nn_d279, trivial⟩
