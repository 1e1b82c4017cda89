/-! the law's own links and code -/
/-! NameNotesLaw -/
def nn_KI0 : List ((Nat × Int) × Nat) := []
theorem nn_KI0_ok : ∀ q ∈ nn_KI0.map (fun x => x.1), Jvm.Cond.constant "NameNotesLaw" q.1 (Int32.ofInt q.2) ∈ nn_TT := nn_ki_ok (by decide +kernel)
def nn_KJ0 : List ((Nat × Int) × Nat) := []
theorem nn_KJ0_ok : ∀ q ∈ nn_KJ0.map (fun x => x.1), Jvm.Cond.constantLong "NameNotesLaw" q.1 (Int64.ofInt q.2) ∈ nn_TT := nn_kj_ok (by decide +kernel)
def nn_PF0 : List ((Nat × Nat × Nat × Nat) × Nat) := []
theorem nn_PF0_ok : ∀ q ∈ nn_PF0.map (fun x => x.1), ab_fok vwCl nn_TT "NameNotesLaw" q := nn_f_ok nn_cls_all (by decide +kernel)
def nn_PS0 : List ((Nat × Nat) × Nat × Bool) := []
theorem nn_PS0_ok : ∀ q ∈ nn_PS0.map (fun x => x.1), ab_psok nn_TT nn_kd "NameNotesLaw" q := nn_ps_ok nn_mh (by decide +kernel)
def nn_PM0_0 : List nn_LK := [((46, 0, 0), 2187, 1001, 2185, 2186, 2184), ((51, 0, 3), 2199, 1001, 2197, 2198, 2196), ((56, 0, 4), 2203, 1001, 2201, 2202, 2200), ((61, 0, 53), 3169, 1001, 3167, 3168, 3166), ((65, 0, 54), 3173, 1001, 3171, 3172, 3170), ((70, 0, 56), 3183, 1001, 3181, 3182, 3180), ((75, 0, 61), 3201, 1001, 3199, 3200, 3198), ((79, 0, 62), 3205, 1001, 3203, 3204, 3202), ((84, 0, 66), 3221, 1001, 3219, 3220, 3218), ((88, 0, 69), 3233, 1001, 3231, 3232, 3230), ((92, 0, 70), 3238, 1001, 3236, 3237, 3235), ((97, 0, 76), 4022, 1001, 4020, 4021, 4019), ((101, 0, 78), 4030, 1001, 4028, 4029, 4027), ((115, 0, 80), 4039, 1001, 4037, 4038, 4036), ((119, 0, 90), 4089, 1001, 4087, 4088, 4086), ((126, 0, 97), 4126, 1001, 4124, 4125, 4123), ((133, 0, 101), 4143, 1001, 4141, 4142, 4140), ((144, 0, 103), 4152, 1001, 4150, 4151, 4149), ((148, 0, 105), 4161, 1001, 4159, 4160, 4158), ((152, 0, 106), 4166, 1001, 4164, 4165, 4163)]
theorem nn_PM0_0_ok : ∀ q ∈ nn_PM0_0.map (fun x => x.1), ab_mlk nn_MT nn_TT nn_NW "NameNotesLaw" q := nn_lk_ok nn_MT_in (by decide +kernel)
def nn_PM0_1 : List nn_LK := [((156, 0, 108), 4173, 1001, 4171, 4172, 4170), ((160, 0, 126), 5015, 1001, 5013, 5014, 5012), ((164, 0, 127), 5020, 1001, 5018, 5019, 5017), ((168, 0, 128), 5024, 1001, 5022, 5023, 5021), ((172, 0, 130), 5032, 1001, 5030, 5031, 5029), ((177, 0, 132), 5044, 1001, 5042, 5043, 5041), ((182, 0, 133), 5049, 1001, 5047, 5048, 5046), ((189, 0, 135), 5058, 1001, 5056, 5057, 5055), ((196, 0, 139), 5074, 1001, 5072, 5073, 5071), ((200, 0, 140), 5078, 1001, 5076, 5077, 5075), ((204, 0, 141), 5082, 1001, 5080, 5081, 5079), ((208, 0, 142), 5086, 1001, 5084, 5085, 5083), ((212, 0, 143), 5091, 1001, 5089, 5090, 5088), ((216, 0, 146), 5104, 1001, 5102, 5103, 5101), ((220, 0, 147), 5108, 1001, 5106, 5107, 5105), ((224, 0, 149), 5115, 1001, 5113, 5114, 5112), ((228, 0, 151), 5123, 1001, 5121, 5122, 5120), ((232, 0, 152), 5128, 1001, 5126, 5127, 5125), ((236, 0, 157), 5160, 1001, 5158, 5159, 5157), ((244, 0, 158), 5164, 1001, 5162, 5163, 5161)]
theorem nn_PM0_1_ok : ∀ q ∈ nn_PM0_1.map (fun x => x.1), ab_mlk nn_MT nn_TT nn_NW "NameNotesLaw" q := nn_lk_ok nn_MT_in (by decide +kernel)
def nn_PM0_2 : List nn_LK := [((248, 0, 168), 5212, 1001, 5210, 5211, 5209), ((252, 0, 169), 5216, 1001, 5214, 5215, 5213), ((256, 0, 170), 5220, 1001, 5218, 5219, 5217), ((260, 0, 171), 5224, 1001, 5222, 5223, 5221), ((264, 0, 172), 5228, 1001, 5226, 5227, 5225), ((268, 0, 180), 6048, 1001, 6046, 6047, 6045), ((272, 0, 184), 6070, 1001, 6068, 6069, 6067), ((276, 0, 186), 6078, 1001, 6076, 6077, 6075), ((280, 0, 187), 6082, 1001, 6080, 6081, 6079), ((7, 0, 188), 6090, 1001, 6088, 6089, 6087), ((15, 0, 194), 6181, 1001, 6179, 6180, 6178), ((19, 0, 195), 6188, 1001, 6186, 6187, 6185), ((22, 0, 196), 6195, 1001, 6193, 6194, 6192), ((25, 0, 197), 6202, 1001, 6200, 6201, 6199), ((29, 0, 198), 6211, 1001, 6209, 6210, 6208), ((32, 0, 199), 6218, 1001, 6216, 6217, 6215), ((35, 0, 200), 6226, 1001, 6224, 6225, 6223), ((38, 0, 201), 6233, 1001, 6231, 6232, 6230), ((50, 0, 205), 7206, 1012, 7204, 7205, 7203), ((55, 0, 207), 7214, 1012, 7212, 7213, 7211)]
theorem nn_PM0_2_ok : ∀ q ∈ nn_PM0_2.map (fun x => x.1), ab_mlk nn_MT nn_TT nn_NW "NameNotesLaw" q := nn_lk_ok nn_MT_in (by decide +kernel)
def nn_PM0_3 : List nn_LK := [((60, 0, 208), 7218, 1012, 7216, 7217, 7215), ((64, 0, 237), 8089, 1012, 8087, 8088, 8086), ((69, 0, 238), 8093, 1012, 8091, 8092, 8090), ((74, 0, 243), 8113, 1012, 8111, 8112, 8110), ((78, 0, 245), 8121, 1012, 8119, 8120, 8118), ((83, 0, 246), 8125, 1012, 8123, 8124, 8122), ((87, 0, 248), 8133, 1012, 8131, 8132, 8130), ((91, 0, 251), 8145, 1012, 8143, 8144, 8142), ((96, 0, 252), 8149, 1012, 8147, 8148, 8146), ((100, 0, 260), 8180, 1012, 8178, 8179, 8177), ((104, 0, 261), 8184, 1012, 8182, 8183, 8181), ((167, 0, 263), 8192, 1012, 8190, 8191, 8189), ((207, 0, 264), 8196, 1012, 8194, 8195, 8193), ((211, 0, 265), 8200, 1012, 8198, 8199, 8197), ((215, 0, 266), 8204, 1012, 8202, 8203, 8201), ((219, 0, 270), 8219, 1012, 8217, 8218, 8216), ((223, 0, 271), 8223, 1012, 8221, 8222, 8220), ((227, 0, 272), 8227, 1012, 8225, 8226, 8224), ((231, 0, 273), 8231, 1012, 8229, 8230, 8228), ((110, 0, 275), 8238, 1012, 8236, 8237, 8235)]
theorem nn_PM0_3_ok : ∀ q ∈ nn_PM0_3.map (fun x => x.1), ab_mlk nn_MT nn_TT nn_NW "NameNotesLaw" q := nn_lk_ok nn_MT_in (by decide +kernel)
def nn_PM0_4 : List nn_LK := [((114, 0, 282), 9029, 1012, 9027, 9028, 9026), ((143, 0, 285), 9042, 1012, 9040, 9041, 9039), ((118, 0, 286), 9046, 1012, 9044, 9045, 9043), ((163, 0, 288), 9054, 1012, 9052, 9053, 9051), ((140, 0, 289), 9059, 1012, 9057, 9058, 9056), ((171, 0, 290), 9064, 1012, 9062, 9063, 9061), ((199, 0, 292), 9072, 1012, 9070, 9071, 9069), ((122, 0, 293), 9076, 1012, 9074, 9075, 9073), ((125, 0, 299), 9100, 1012, 9098, 9099, 9097), ((129, 0, 300), 9104, 1012, 9102, 9103, 9101), ((132, 0, 303), 9116, 1012, 9114, 9115, 9113), ((136, 0, 304), 9120, 1012, 9118, 9119, 9117), ((147, 0, 305), 9125, 1012, 9123, 9124, 9122), ((151, 0, 307), 9133, 1012, 9131, 9132, 9130), ((155, 0, 308), 9137, 1012, 9135, 9136, 9134), ((159, 0, 309), 9141, 1012, 9139, 9140, 9138), ((259, 0, 312), 9153, 1012, 9151, 9152, 9150), ((263, 0, 313), 9157, 1012, 9155, 9156, 9154), ((185, 0, 314), 9161, 1012, 9159, 9160, 9158), ((176, 0, 315), 9165, 1012, 9163, 9164, 9162)]
theorem nn_PM0_4_ok : ∀ q ∈ nn_PM0_4.map (fun x => x.1), ab_mlk nn_MT nn_TT nn_NW "NameNotesLaw" q := nn_lk_ok nn_MT_in (by decide +kernel)
def nn_PM0_5 : List nn_LK := [((181, 0, 317), 9173, 1012, 9171, 9172, 9170), ((203, 0, 318), 9177, 1012, 9175, 9176, 9174), ((188, 0, 319), 9181, 1012, 9179, 9180, 9178), ((192, 0, 323), 9196, 1012, 9194, 9195, 9193), ((195, 0, 324), 9200, 1012, 9198, 9199, 9197), ((235, 0, 325), 9204, 1012, 9202, 9203, 9201), ((239, 0, 330), 9224, 1012, 9222, 9223, 9221), ((243, 0, 331), 9228, 1012, 9226, 9227, 9225), ((247, 0, 332), 9232, 1012, 9230, 9231, 9229), ((251, 0, 339), 10020, 1012, 10018, 10019, 10017), ((255, 0, 340), 10024, 1012, 10022, 10023, 10021), ((267, 0, 341), 10028, 1012, 10026, 10027, 10025), ((271, 0, 350), 10064, 1012, 10062, 10063, 10061), ((275, 0, 352), 10072, 1012, 10070, 10071, 10069), ((279, 0, 353), 10076, 1012, 10074, 10075, 10073), ((283, 0, 354), 10080, 1012, 10078, 10079, 10077)]
theorem nn_PM0_5_ok : ∀ q ∈ nn_PM0_5.map (fun x => x.1), ab_mlk nn_MT nn_TT nn_NW "NameNotesLaw" q := nn_lk_ok nn_MT_in (by decide +kernel)
def nn_PM0 : List nn_LK := nn_PM0_0 ++ (nn_PM0_1 ++ (nn_PM0_2 ++ (nn_PM0_3 ++ (nn_PM0_4 ++ (nn_PM0_5)))))
theorem nn_PM0_ok : ∀ q ∈ nn_PM0.map (fun x => x.1), ab_mlk nn_MT nn_TT nn_NW "NameNotesLaw" q := nn_lk_app nn_PM0_0_ok (nn_lk_app nn_PM0_1_ok (nn_lk_app nn_PM0_2_ok (nn_lk_app nn_PM0_3_ok (nn_lk_app nn_PM0_4_ok (nn_PM0_5_ok)))))
theorem nn_dt_app {cc : ByteArray} {a b : ab_DT} (ha : ab_dtok cc a = true) (hb : ab_dtok cc b = true) : ab_dtok cc (a ++ b) = true := by
  unfold ab_dtok at ha hb ⊢
  rw [List.all_append, ha, hb]
  rfl
def nq_dt_named_0 : ab_DT := [[(0, .aload 6, 2, 0), (2, .iconst 0, 1, 0), (3, .aload_n 0, 1, 0), (4, .iload_n 1, 1, 0), (5, .iload_n 2, 1, 0), (6, .iload_n 3, 1, 0), (7, .iload 4, 2, 0), (9, .iload 5, 2, 0), (11, .invokevirtual 7, 3, 3), (14, .lastore, 1, 1), (15, .goto 7, 3, 2)],
  [(18, .astore 7, 2, 0), (20, .iconst 1, 1, 0), (21, .ireturn, 1, 6), (22, .iconst 0, 1, 0), (23, .ireturn, 1, 6)]]
theorem nq_dt_named_0_ok : ab_dtok method_3_code nq_dt_named_0 = true := dw_ok (by decide +kernel)
def nq_dt_named : ab_DT := nq_dt_named_0
theorem nq_dt_named_ok : ab_dtok method_3_code nq_dt_named = true := nq_dt_named_0_ok
def nq_dt_odds_0 : ab_DT := [[(0, .aload 5, 2, 0), (2, .iconst 0, 1, 0), (3, .aload_n 0, 1, 0), (4, .iload_n 1, 1, 0), (5, .iload_n 2, 1, 0), (6, .iload_n 3, 1, 0), (7, .iload 4, 2, 0), (9, .invokevirtual 15, 3, 3), (12, .lastore, 1, 1), (13, .goto 7, 3, 2)],
  [(16, .astore 6, 2, 0), (18, .iconst 1, 1, 0), (19, .ireturn, 1, 6), (20, .iconst 0, 1, 0), (21, .ireturn, 1, 6)]]
theorem nq_dt_odds_0_ok : ab_dtok method_4_code nq_dt_odds_0 = true := dw_ok (by decide +kernel)
def nq_dt_odds : ab_DT := nq_dt_odds_0
theorem nq_dt_odds_ok : ab_dtok method_4_code nq_dt_odds = true := nq_dt_odds_0_ok
def nq_dt_worth_0 : ab_DT := [[(0, .aload 6, 2, 0), (2, .iconst 0, 1, 0), (3, .aload_n 0, 1, 0), (4, .iload_n 1, 1, 0), (5, .iload_n 2, 1, 0), (6, .iload_n 3, 1, 0), (7, .iload 4, 2, 0), (9, .iload 5, 2, 0), (11, .invokevirtual 19, 3, 3), (14, .lastore, 1, 1), (15, .goto 7, 3, 2)],
  [(18, .astore 7, 2, 0), (20, .iconst 1, 1, 0), (21, .ireturn, 1, 6), (22, .iconst 0, 1, 0), (23, .ireturn, 1, 6)]]
theorem nq_dt_worth_0_ok : ab_dtok method_5_code nq_dt_worth_0 = true := dw_ok (by decide +kernel)
def nq_dt_worth : ab_DT := nq_dt_worth_0
theorem nq_dt_worth_ok : ab_dtok method_5_code nq_dt_worth = true := nq_dt_worth_0_ok
def nq_dt_gains_0 : ab_DT := [[(0, .aload 6, 2, 0), (2, .iconst 0, 1, 0), (3, .aload_n 0, 1, 0), (4, .iload_n 1, 1, 0), (5, .iload_n 2, 1, 0), (6, .iload_n 3, 1, 0), (7, .iload 4, 2, 0), (9, .iload 5, 2, 0), (11, .invokevirtual 22, 3, 3), (14, .lastore, 1, 1), (15, .goto 7, 3, 2)],
  [(18, .astore 7, 2, 0), (20, .iconst 1, 1, 0), (21, .ireturn, 1, 6), (22, .iconst 0, 1, 0), (23, .ireturn, 1, 6)]]
theorem nq_dt_gains_0_ok : ab_dtok method_6_code nq_dt_gains_0 = true := dw_ok (by decide +kernel)
def nq_dt_gains : ab_DT := nq_dt_gains_0
theorem nq_dt_gains_ok : ab_dtok method_6_code nq_dt_gains = true := nq_dt_gains_0_ok
def nq_dt_held_0 : ab_DT := [[(0, .aload 7, 2, 0), (2, .iconst 0, 1, 0), (3, .aload_n 0, 1, 0), (4, .iload_n 1, 1, 0), (5, .iload_n 2, 1, 0), (6, .iload_n 3, 1, 0), (7, .iload 4, 2, 0), (9, .iload 5, 2, 0), (11, .iload 6, 2, 0), (13, .invokevirtual 25, 3, 3)],
  [(16, .lastore, 1, 1), (17, .goto 7, 3, 2), (20, .astore 8, 2, 0), (22, .iconst 1, 1, 0), (23, .ireturn, 1, 6), (24, .iconst 0, 1, 0), (25, .ireturn, 1, 6)]]
theorem nq_dt_held_0_ok : ab_dtok method_7_code nq_dt_held_0 = true := dw_ok (by decide +kernel)
def nq_dt_held : ab_DT := nq_dt_held_0
theorem nq_dt_held_ok : ab_dtok method_7_code nq_dt_held = true := nq_dt_held_0_ok
def nq_dt_among_0 : ab_DT := [[(0, .aload 5, 2, 0), (2, .iconst 0, 1, 0), (3, .aload_n 0, 1, 0), (4, .iload_n 1, 1, 0), (5, .iload_n 2, 1, 0), (6, .iload_n 3, 1, 0), (7, .iload 4, 2, 0), (9, .invokevirtual 29, 3, 3), (12, .lastore, 1, 1), (13, .goto 7, 3, 2)],
  [(16, .astore 6, 2, 0), (18, .iconst 1, 1, 0), (19, .ireturn, 1, 6), (20, .iconst 0, 1, 0), (21, .ireturn, 1, 6)]]
theorem nq_dt_among_0_ok : ab_dtok method_8_code nq_dt_among_0 = true := dw_ok (by decide +kernel)
def nq_dt_among : ab_DT := nq_dt_among_0
theorem nq_dt_among_ok : ab_dtok method_8_code nq_dt_among = true := nq_dt_among_0_ok
def nq_dt_match_0 : ab_DT := [[(0, .aload 5, 2, 0), (2, .iconst 0, 1, 0), (3, .aload_n 0, 1, 0), (4, .iload_n 1, 1, 0), (5, .iload_n 2, 1, 0), (6, .iload_n 3, 1, 0), (7, .iload 4, 2, 0), (9, .invokevirtual 32, 3, 3), (12, .lastore, 1, 1), (13, .goto 7, 3, 2)],
  [(16, .astore 6, 2, 0), (18, .iconst 1, 1, 0), (19, .ireturn, 1, 6), (20, .iconst 0, 1, 0), (21, .ireturn, 1, 6)]]
theorem nq_dt_match_0_ok : ab_dtok method_9_code nq_dt_match_0 = true := dw_ok (by decide +kernel)
def nq_dt_match : ab_DT := nq_dt_match_0
theorem nq_dt_match_ok : ab_dtok method_9_code nq_dt_match = true := nq_dt_match_0_ok
def nq_dt_bolder_0 : ab_DT := [[(0, .aload 6, 2, 0), (2, .iconst 0, 1, 0), (3, .aload_n 0, 1, 0), (4, .iload_n 1, 1, 0), (5, .iload_n 2, 1, 0), (6, .iload_n 3, 1, 0), (7, .iload 4, 2, 0), (9, .iload 5, 2, 0), (11, .invokevirtual 35, 3, 3), (14, .lastore, 1, 1), (15, .goto 7, 3, 2)],
  [(18, .astore 7, 2, 0), (20, .iconst 1, 1, 0), (21, .ireturn, 1, 6), (22, .iconst 0, 1, 0), (23, .ireturn, 1, 6)]]
theorem nq_dt_bolder_0_ok : ab_dtok method_10_code nq_dt_bolder_0 = true := dw_ok (by decide +kernel)
def nq_dt_bolder : ab_DT := nq_dt_bolder_0
theorem nq_dt_bolder_ok : ab_dtok method_10_code nq_dt_bolder = true := nq_dt_bolder_0_ok
def nq_dt_told_0 : ab_DT := [[(0, .aload_n 2, 1, 0), (1, .iconst 0, 1, 0), (2, .aload_n 0, 1, 0), (3, .iload_n 1, 1, 0), (4, .invokevirtual 38, 3, 3), (7, .lastore, 1, 1), (8, .goto 6, 3, 2), (11, .astore_n 3, 1, 0), (12, .iconst 1, 1, 0), (13, .ireturn, 1, 6), (14, .iconst 0, 1, 0), (15, .ireturn, 1, 6)]]
theorem nq_dt_told_0_ok : ab_dtok method_11_code nq_dt_told_0 = true := dw_ok (by decide +kernel)
def nq_dt_told : ab_DT := nq_dt_told_0
theorem nq_dt_told_ok : ab_dtok method_11_code nq_dt_told = true := nq_dt_told_0_ok
