/-! the law's own links and cases, checked -/
def lzL : List (Nat × Nat × Nat) := [(9, 91, 74), (13, 92, 292), (18, 93, 336), (23, 94, 349), (27, 95, 365), (31, 96, 376), (36, 97, 407), (41, 98, 415), (45, 99, 424), (49, 100, 432), (53, 101, 440), (57, 102, 449), (61, 103, 470), (65, 104, 482), (69, 105, 486), (73, 106, 498), (77, 107, 506), (81, 108, 567), (86, 109, 627), (90, 110, 635), (94, 111, 646), (98, 112, 654), (102, 113, 667), (106, 114, 710), (110, 115, 727), (114, 117, 739), (118, 118, 770), (122, 119, 774), (126, 120, 784), (130, 121, 793), (134, 122, 802), (139, 123, 807), (143, 124, 816), (147, 125, 824), (151, 126, 833), (155, 127, 837), (12, 134, 847), (17, 147, 964), (22, 148, 976), (26, 150, 991), (30, 151, 1015), (35, 154, 1024), (40, 155, 1045), (44, 156, 1049), (48, 157, 1053), (52, 158, 1057), (56, 166, 1061), (60, 168, 1065), (64, 169, 1083), (68, 170, 1087), (72, 171, 1091), (76, 172, 1095), (80, 180, 1099), (146, 181, 1137), (93, 184, 1141), (97, 185, 1151), (101, 187, 1155), (105, 192, 1162), (109, 194, 1181), (113, 196, 1189), (89, 197, 1200), (85, 206, 1204), (117, 210, 1240), (121, 211, 1257), (125, 212, 1261), (129, 213, 1265), (133, 214, 1269), (138, 215, 1273), (142, 216, 1279), (150, 217, 1283), (154, 218, 1287), (158, 219, 1291)]
set_option maxRecDepth 100000 in
theorem lzL_ok : lzL.all (fun q => jwd q.2.2 (.methodLink R_law q.1 (jY q.2.1))) = true := by decide +kernel
theorem lzL_in {a b : Nat} (h : lzL.any (fun q => Nat.beq q.1 a && Nat.beq q.2.1 b) = true) : Cond.methodLink R_law a (jY b) ∈ jWS := by
  obtain ⟨q, hq, h2⟩ := List.any_eq_true.mp h
  simp only [Bool.and_eq_true, Nat.beq_eq] at h2
  have h3 := List.all_eq_true.mp lzL_ok q hq
  rw [h2.1, h2.2] at h3
  exact jwd_in h3
set_option maxRecDepth 100000 in
theorem lzK_7 : Cond.classLink R_law 7 (jFR 8) ∈ jWS := jwd_in (i := 72) (by decide +kernel)
set_option maxRecDepth 100000 in
theorem lzK_10 : Cond.classLink R_law 10 (jFR 9) ∈ jWS := jwd_in (i := 845) (by decide +kernel)
theorem lzc_0 : lzcs 188 2 13 17 2 1035 1253 true = true := by decide +kernel
theorem lzc_1 : lzcs 221 3 18 22 2 992 1253 true = true := by decide +kernel
theorem lzc_2 : lzcs 264 2 23 26 2 959 1253 true = true := by decide +kernel
theorem lzc_3 : lzcs 297 2 27 30 0 928 1253 true = true := by decide +kernel
theorem lzc_4 : lzcs 330 3 31 35 3 883 1253 true = true := by decide +kernel
theorem lzc_5 : lzcs 373 1 36 40 2 860 1253 true = true := by decide +kernel
theorem lzc_6 : lzcs 396 1 41 44 2 837 1253 true = true := by decide +kernel
theorem lzc_7 : lzcs 419 2 45 48 2 804 1253 true = true := by decide +kernel
theorem lzc_8 : lzcs 452 2 49 52 2 771 1253 true = true := by decide +kernel
theorem lzc_9 : lzcs 485 1 53 56 2 748 1253 true = true := by decide +kernel
theorem lzc_10 : lzcs 508 3 57 60 2 705 1253 true = true := by decide +kernel
theorem lzc_11 : lzcs 551 2 61 64 2 672 1253 true = true := by decide +kernel
theorem lzc_12 : lzcs 584 2 65 68 2 639 1253 true = true := by decide +kernel
theorem lzc_13 : lzcs 617 2 69 72 2 606 1253 true = true := by decide +kernel
theorem lzc_14 : lzcs 650 2 73 76 2 573 1253 true = true := by decide +kernel
theorem lzc_15 : lzcs 683 1 77 80 2 550 1253 true = true := by decide +kernel
theorem lzc_16 : lzcs 706 0 81 85 2 537 1253 true = true := by decide +kernel
theorem lzc_17 : lzcs 719 1 86 89 2 514 1253 true = true := by decide +kernel
theorem lzc_18 : lzcs 742 1 90 93 2 491 1253 true = true := by decide +kernel
theorem lzc_19 : lzcs 765 1 94 97 2 468 1253 true = true := by decide +kernel
theorem lzc_20 : lzcs 788 2 98 101 2 435 1253 true = true := by decide +kernel
theorem lzc_21 : lzcs 821 2 102 105 2 402 1253 true = true := by decide +kernel
theorem lzc_22 : lzcs 854 3 106 109 2 359 1253 true = true := by decide +kernel
theorem lzc_23 : lzcs 897 3 110 113 2 316 1253 true = true := by decide +kernel
theorem lzc_24 : lzcs 940 2 114 117 2 283 1253 true = true := by decide +kernel
theorem lzc_25 : lzcs 973 2 118 121 2 250 1253 true = true := by decide +kernel
theorem lzc_26 : lzcs 1006 2 122 125 2 217 1253 true = true := by decide +kernel
theorem lzc_27 : lzcs 1039 2 126 129 2 184 1253 true = true := by decide +kernel
theorem lzc_28 : lzcs 1072 3 130 133 2 141 1253 true = true := by decide +kernel
theorem lzc_29 : lzcs 1115 2 134 138 3 108 1253 true = true := by decide +kernel
theorem lzc_30 : lzcs 1148 3 139 142 2 65 1253 true = true := by decide +kernel
theorem lzc_31 : lzcs 1191 0 143 146 2 52 1253 true = true := by decide +kernel
theorem lzc_32 : lzcs 1204 0 147 150 2 39 1253 true = true := by decide +kernel
theorem lzc_33 : lzcs 1217 0 151 154 2 26 1253 true = true := by decide +kernel
theorem lzc_34 : lzcs 1230 1 155 158 2 3 1253 true = true := by decide +kernel
/-- what a call of a method asks of the law -/
theorem lzm_ok : ([(92, 2), (147, 2), (93, 3), (148, 3), (94, 2), (150, 2), (95, 2), (151, 2), (96, 3), (154, 3), (97, 1), (155, 1), (98, 1), (156, 1), (99, 2), (157, 2), (100, 2), (158, 2), (101, 1), (166, 1), (102, 3), (168, 3), (103, 2), (169, 2), (104, 2), (170, 2), (105, 2), (171, 2), (106, 2), (172, 2), (107, 1), (180, 1), (108, 0), (206, 0), (109, 1), (197, 1), (110, 1), (184, 1), (111, 1), (185, 1), (112, 2), (187, 2), (113, 2), (192, 2), (114, 3), (194, 3), (115, 3), (196, 3), (117, 2), (210, 2), (118, 2), (211, 2), (119, 2), (212, 2), (120, 2), (213, 2), (121, 3), (214, 3), (122, 2), (215, 2), (123, 3), (216, 3), (124, 0), (181, 0), (125, 0), (217, 0), (126, 0), (218, 0), (127, 1), (219, 1)] : List (Nat × Nat)).all (fun q => lzm q.1 q.2) = true := by decide +kernel
theorem lzm_in {k n : Nat} (h : ([(92, 2), (147, 2), (93, 3), (148, 3), (94, 2), (150, 2), (95, 2), (151, 2), (96, 3), (154, 3), (97, 1), (155, 1), (98, 1), (156, 1), (99, 2), (157, 2), (100, 2), (158, 2), (101, 1), (166, 1), (102, 3), (168, 3), (103, 2), (169, 2), (104, 2), (170, 2), (105, 2), (171, 2), (106, 2), (172, 2), (107, 1), (180, 1), (108, 0), (206, 0), (109, 1), (197, 1), (110, 1), (184, 1), (111, 1), (185, 1), (112, 2), (187, 2), (113, 2), (192, 2), (114, 3), (194, 3), (115, 3), (196, 3), (117, 2), (210, 2), (118, 2), (211, 2), (119, 2), (212, 2), (120, 2), (213, 2), (121, 3), (214, 3), (122, 2), (215, 2), (123, 3), (216, 3), (124, 0), (181, 0), (125, 0), (217, 0), (126, 0), (218, 0), (127, 1), (219, 1)] : List (Nat × Nat)).any (fun q => Nat.beq q.1 k && Nat.beq q.2 n) = true) : lzm k n = true := by
  obtain ⟨q, hq, h2⟩ := List.any_eq_true.mp h
  simp only [Bool.and_eq_true, Nat.beq_eq] at h2
  have h3 := List.all_eq_true.mp lzm_ok q hq
  rw [h2.1, h2.2] at h3
  exact h3
theorem lzd_0 : decode code 0 = .ok (.new 7, 3) := by decide +kernel
theorem lzd_3 : decode code 3 = .ok (.dup, 1) := by decide +kernel
theorem lzd_4 : decode code 4 = .ok (.invokespecial 9, 3) := by decide +kernel
theorem lzd_7 : decode code 7 = .ok (.astore_n 1, 1) := by decide +kernel
theorem lzd_8 : decode code 8 = .ok (.new 10, 3) := by decide +kernel
theorem lzd_11 : decode code 11 = .ok (.dup, 1) := by decide +kernel
theorem lzd_12 : decode code 12 = .ok (.invokespecial 12, 3) := by decide +kernel
theorem lzd_15 : decode code 15 = .ok (.astore_n 2, 1) := by decide +kernel
theorem lzd_16 : decode code 16 = .ok (.iconst 0, 1) := by decide +kernel
theorem lzd_17 : decode code 17 = .ok (.istore_n 3, 1) := by decide +kernel
theorem lzd_18 : decode code 18 = .ok (.iload_n 3, 1) := by decide +kernel
theorem lzd_19 : decode code 19 = .ok (.aload_n 0, 1) := by decide +kernel
theorem lzd_20 : decode code 20 = .ok (.arraylength, 1) := by decide +kernel
theorem lzd_21 : decode code 21 = .ok (.iconst 4, 1) := by decide +kernel
theorem lzd_22 : decode code 22 = .ok (.isub, 1) := by decide +kernel
theorem lzd_23 : decode code 23 = .ok (.if_icmp .gt 1236, 3) := by decide +kernel
theorem lzd_26 : decode code 26 = .ok (.aload_n 0, 1) := by decide +kernel
theorem lzd_27 : decode code 27 = .ok (.iload_n 3, 1) := by decide +kernel
theorem lzd_28 : decode code 28 = .ok (.iaload, 1) := by decide +kernel
theorem lzd_29 : decode code 29 = .ok (.bipush 63, 2) := by decide +kernel
theorem lzd_31 : decode code 31 = .ok (.iand, 1) := by decide +kernel
theorem lzd_1253 : decode code 1253 = .ok (.iinc 3 4, 3) := by decide +kernel
theorem lzd_1256 : decode code 1256 = .ok (.goto (-1238), 3) := by decide +kernel
theorem lzd_1259 : decode code 1259 = .ok (.iconst 1, 1) := by decide +kernel
theorem lzd_1260 : decode code 1260 = .ok (.ireturn, 1) := by decide +kernel
def lzoffs : Array Int := #[156, 189, 232, 265, 298, 341, 364, 387, 420, 453, 476, 519, 552, 585, 618, 651, 674, 687, 710, 733, 756, 789, 822, 865, 908, 941, 974, 1007, 1040, 1083, 1116, 1159, 1172, 1185, 1198]
theorem lzd_32 : decode code 32 = .ok (.tableswitch 1221 0 34 #[156, 189, 232, 265, 298, 341, 364, 387, 420, 453, 476, 519, 552, 585, 618, 651, 674, 687, 710, 733, 756, 789, 822, 865, 908, 941, 974, 1007, 1040, 1083, 1116, 1159, 1172, 1185, 1198], 156) := by decide +kernel
