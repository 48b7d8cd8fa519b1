/-! OURS, printed by wip/tools/gen2.py: where the tables have the words that our program's links rest on. -/
def TT : List Cond := Jvm.Cond.code x code maxLocals ret :: lw_tbl
def pg_on : List String := ["TwoWayTexts", "TwoWayTexts$Joiner", "TwoWayTexts$Part", "TwoWayTexts$Program", "TwoWayTexts$TextSet", "TwoWayTextsModel", "TwoWayTexts$Texts", "TwoWayTextsLaw", "java/lang/Long", "java/util/Arrays", "java/lang/Math"]
def pg_lfp : List (List Nat) := [[227, 228, 229, 230, 231, 232, 233, 234, 235, 236, 237, 238, 239, 207, 163, 165, 154, 211, 159, 161], [113, 114, 115, 116], [152, 153, 155, 158, 160, 162, 164, 166, 167, 168, 169, 170, 156, 157], [204, 205, 206, 208, 209, 210], [147], [769, 770, 772, 776, 777, 778, 779, 780, 781, 783, 784, 785, 786, 787, 788, 789, 790, 791, 793, 794, 795, 800, 801, 802, 805, 806, 807, 808, 811, 812, 813, 814, 815, 817, 818, 819, 820, 823, 824, 825, 826, 827, 829, 830, 831, 833, 834, 835, 804, 771, 773, 798, 782, 792, 796, 797, 799, 774, 775, 809, 816, 821, 822, 828, 810, 832, 836, 803], [], [], [], [], []]
def pg_lsp : List (List Nat) := [[], [393, 394], [], [], [], [], [391, 626], [], [], [], []]
def pg_lmp : List (List Nat) := [[104, 109, 130, 226, 458, 503, 271, 327, 434, 537, 558, 570, 589, 604, 551, 656, 718, 722, 734, 742, 750, 759, 583, 608], [112, 373, 377, 384, 400, 404, 388, 396], [140, 143, 335, 340, 365, 416, 424, 428, 429, 433, 344, 357, 361, 369, 408, 412, 420, 617, 612, 613, 618, 637, 622, 628, 634, 665, 669, 673, 677, 698, 702, 706, 660, 661, 681, 685, 689, 694, 714, 710, 726], [133, 137, 200, 275, 278, 281, 331, 285, 297, 305, 289, 324, 293, 301, 317, 320, 309, 313], [146, 381, 339, 351, 348], [768, 1009, 1013, 1001, 998, 1017, 994, 1005, 1021, 1029, 990, 1025, 1058, 1062, 1051, 1066, 1044, 1036, 1040, 1047, 1054, 1070, 986, 1032, 1133, 1141, 1121, 1125, 1129, 1137, 1145, 1193, 1197, 1161, 1165, 1169, 1173, 1177, 1189, 1117, 1181, 1185, 1201, 1086, 1090, 1098, 1113, 1109, 1157], [625, 627, 631, 692, 693], [454, 533, 566, 593, 600, 644, 651, 730, 738, 746, 754, 101, 765, 450, 978, 974, 267, 982, 438, 1074, 442, 1078, 529, 1082, 562, 1094, 590, 1101, 597, 1105, 641, 1149, 648, 1153, 727, 1205, 446, 1209, 735, 1213, 743, 1217, 751, 1221], [], [], []]
def pg_lcp : List (List Nat) := [[107, 128, 225, 461, 541, 573], [], [141], [134], [], [], [], [99, 453, 532, 565, 763], [], [], []]
def pg_klp : List (List Nat) := [[], [], [], [], [], [], [], [], [354, 355, 356], [], []]
def pg_cp (j : Nat) : Nat := [0, 103, 111, 132, 139, 145, 203, 270, 274, 284, 288, 292, 296, 300, 304, 308, 312, 316, 319, 323, 326, 330, 334, 338, 343, 347, 350, 353, 360, 364, 368, 372, 376, 380, 383, 387, 390, 399, 403, 407, 411, 415, 419, 423, 427, 432, 437, 441, 445, 449, 452, 457, 460, 531, 536, 540, 561, 564, 569, 572, 592, 596, 599, 603, 607, 611, 616, 621, 624, 630, 636, 640, 643, 647, 650, 654, 659, 664, 668, 672, 676, 680, 684, 688, 691, 697, 701, 705, 709, 713, 717, 721, 725, 729, 733, 737, 741, 745, 749, 753, 757, 762, 767, 977, 981, 985, 989, 993, 997, 1000, 1004, 1008, 1012, 1016, 1020, 1024, 1028, 1031, 1035, 1039, 1043, 1046, 1050, 1053, 1057, 1061, 1065, 1069, 1073, 1077, 1081, 1085, 1089, 1093, 1097, 1100, 1104, 1108, 1112, 1116, 1120, 1124, 1128, 1132, 1136, 1140, 1144, 1148, 1152, 1156, 1160, 1164, 1168, 1172, 1176, 1180, 1184, 1188, 1192, 1196, 1200, 1204, 1208, 1212, 1216, 1220, 1224].getD j 0
def pg_sp (j : Nat) : Nat := [0, 102, 110, 131, 138, 144, 201, 268, 272, 283, 287, 291, 295, 299, 303, 307, 311, 314, 318, 322, 325, 328, 332, 336, 342, 345, 349, 352, 359, 362, 367, 370, 374, 378, 382, 386, 389, 398, 401, 405, 410, 414, 418, 421, 426, 431, 436, 439, 443, 447, 451, 455, 459, 530, 534, 539, 559, 563, 567, 571, 591, 594, 598, 601, 606, 609, 615, 620, 623, 629, 635, 639, 642, 645, 649, 652, 657, 663, 666, 671, 675, 679, 683, 687, 690, 696, 699, 704, 708, 712, 716, 719, 723, 728, 731, 736, 739, 744, 747, 752, 755, 760, 766, 975, 979, 983, 988, 992, 996, 999, 1003, 1007, 1011, 1015, 1019, 1023, 1027, 1030, 1034, 1038, 1042, 1045, 1049, 1052, 1056, 1060, 1064, 1068, 1072, 1075, 1079, 1083, 1088, 1092, 1095, 1099, 1102, 1106, 1111, 1115, 1119, 1123, 1127, 1131, 1135, 1139, 1143, 1147, 1150, 1154, 1159, 1163, 1167, 1171, 1175, 1179, 1183, 1187, 1191, 1195, 1199, 1203, 1206, 1210, 1214, 1218, 1222].getD j 0
def pg_lp (j : Nat) : Nat := [0, 0, 0, 0, 0, 0, 202, 269, 273, 1, 2, 3, 4, 5, 6, 7, 8, 315, 0, 9, 0, 329, 333, 337, 10, 346, 0, 0, 11, 363, 12, 371, 375, 379, 0, 13, 0, 14, 402, 406, 15, 16, 17, 422, 18, 19, 20, 440, 444, 448, 0, 456, 0, 0, 535, 22, 560, 0, 568, 0, 0, 595, 0, 602, 23, 610, 24, 25, 0, 0, 0, 26, 0, 646, 0, 653, 658, 27, 667, 28, 29, 30, 31, 32, 0, 33, 700, 34, 35, 36, 37, 720, 724, 0, 732, 0, 740, 0, 748, 0, 756, 761, 0, 976, 980, 984, 38, 39, 40, 0, 41, 42, 43, 44, 45, 46, 47, 0, 48, 49, 50, 0, 51, 0, 52, 53, 54, 55, 56, 1076, 1080, 1084, 57, 58, 1096, 0, 1103, 1107, 59, 60, 61, 62, 63, 64, 65, 66, 67, 68, 1151, 1155, 69, 70, 71, 72, 73, 74, 75, 76, 77, 78, 79, 80, 1207, 1211, 1215, 1219, 1223].getD j 0
def pg_ip (o : Nat) : Nat := [82, 83, 85, 84, 86, 87, 96, 81, 94, 95, 92].getD o 0
def pg_tsp : List Nat := [240, 242, 244, 246, 248, 250, 252, 254, 256, 258, 260, 262, 264, 117, 119, 121, 123, 171, 173, 175, 177, 179, 181, 183, 185, 187, 189, 191, 193, 195, 197, 212, 214, 216, 218, 220, 222, 148, 837, 839, 841, 843, 845, 847, 849, 851, 853, 855, 857, 859, 861, 863, 865, 867, 869, 871, 873, 875, 877, 879, 881, 883, 885, 887, 889, 891, 893, 895, 897, 899, 901, 903, 905, 907, 909, 911, 913, 915, 917, 919, 921, 923, 925, 927, 929, 931, 933, 935, 937, 939, 941, 943, 945, 947, 949, 951, 953, 955, 957, 959, 961, 963, 965, 967, 969, 971]
def pg_ts : List Cond := pg_cl.flatMap (fun r => u_ws r.1 r.2.1 r.2.2)
def pg_np (ci : Nat) : Nat := [100, 108, 136, 129, 142, 764, 462, 542, 574].getD ci 0
def pg_kp (ci : Nat) : Nat := [82, 83, 85, 84, 86, 87, 91, 97, 98].getD ci 0
set_option maxRecDepth 100000 in
theorem ck_ts : pg_ts = pg_tsp.filterMap (fun i => TT[i]?) ∧ pg_ts.all goodWord = true := by decide +kernel
def ck_lfo (o : Nat) : Bool := decide ((pg_lf_l.getD o []).length = (pg_lfp.getD o []).length) && ((pg_lf_l.getD o []).zip (pg_lfp.getD o [])).all (fun q => match pg_cl[q.1.2.1]? with
  | none => false
  | some r => decide (q.1.2.2 < r.2.2) && (decide (TT[q.2]? = some (.fieldLink (pg_on.getD o "") q.1.1 (r.2.1 q.1.2.2).1 (r.2.1 q.1.2.2).2.1 (r.2.1 q.1.2.2).2.2.1)) || decide (TT[q.2]? = some (.fieldLinkNest (pg_on.getD o "") q.1.1 (r.2.1 q.1.2.2).1 (r.2.1 q.1.2.2).2.1 (r.2.1 q.1.2.2).2.2.1 "TwoWayTexts"))))
theorem ck_lf : (List.range 11).all ck_lfo = true := by decide +kernel
def pg_sn (a : Nat) : String := if a = 1000000 then "STARTS" else "POWERS"
def ck_lso (o : Nat) : Bool := decide ((pg_ls_l.getD o []).length = (pg_lsp.getD o []).length) && ((pg_ls_l.getD o []).zip (pg_lsp.getD o [])).all (fun q => (q.1.2 == 1000000 || q.1.2 == 1000001) && (decide (TT[q.2]? = some (.fieldLink (pg_on.getD o "") q.1.1 "TwoWayTexts" (pg_sn q.1.2) "[I")) || decide (TT[q.2]? = some (.fieldLinkNest (pg_on.getD o "") q.1.1 "TwoWayTexts" (pg_sn q.1.2) "[I" "TwoWayTexts"))))
theorem ck_ls : (List.range 11).all ck_lso = true := by decide +kernel
def pg_ym (o i jj : Nat) : MethodName := if jj = 1000000 then Lib.objectInit else if jj = 1000001 then arraycopyName else if jj = 1000002 then Lib.Math.max.name else if jj = 1000003 then Lib.Math.min.name else pg_yn jj
def ck_lmo (o : Nat) : Bool := decide ((pg_lm_l.getD o []).length = (pg_lmp.getD o []).length) && ((pg_lm_l.getD o []).zip (pg_lmp.getD o [])).all (fun q => q.1.2 == 1000004 || (decide (q.1.2 < 167) || q.1.2 == 1000000 || q.1.2 == 1000001 || q.1.2 == 1000002 || q.1.2 == 1000003) && (decide (TT[q.2]? = some (.methodLink (pg_on.getD o "") q.1.1 (pg_ym o q.1.1 q.1.2))) || decide (TT[q.2]? = some (.methodLinkNest (pg_on.getD o "") q.1.1 (pg_ym o q.1.1 q.1.2) "TwoWayTexts"))))
theorem ck_lm : (List.range 11).all ck_lmo = true := by decide +kernel
def ck_lco (o : Nat) : Bool := decide ((pg_lc_l.getD o []).length = (pg_lcp.getD o []).length) && ((pg_lc_l.getD o []).zip (pg_lcp.getD o [])).all (fun q => match pg_cl[q.1.2]? with
  | none => false
  | some r => decide (TT[q.2]? = some (.classLink (pg_on.getD o "") q.1.1 r.1)))
theorem ck_lc : (List.range 11).all ck_lco = true := by decide +kernel
def ck_klo (o : Nat) : Bool := decide ((pg_kl_l.getD o []).length = (pg_klp.getD o []).length) && ((pg_kl_l.getD o []).zip (pg_klp.getD o [])).all (fun q => decide (TT[q.2]? = some (.constantLong (pg_on.getD o "") q.1.1 q.1.2)))
theorem ck_kl : (List.range 11).all ck_klo = true := by decide +kernel
/-- a method's words -/
def ck_mo (j : Nat) : Bool := decide ((pg_yn j).cls = pg_on.getD (pg_o j) "") && decide (pg_o j < 11) && plainName (pg_yn j).cls && decide ((pg_yn j).cls ≠ "java/lang/invoke/MethodHandle") && decide ((pg_yn j).cls ≠ "java/lang/invoke/VarHandle") && decide (pg_n j ≤ 40) && decide (TT[pg_ip (pg_o j)]? = some (.initialized (pg_yn j).cls)) && (match pg_rc j with
  | none => (j == 0 || decide (TT[pg_sp j]? = some (.static (pg_yn j)))) && decide ((parseMethodDescriptor (pg_yn j).desc).map (fun d => d.parameters.length) = some (pg_na j))
  | some ci => decide (TT[pg_sp j]? = some (.instanceMethod (pg_yn j))) && decide ((parseMethodDescriptor (pg_yn j).desc).map (fun d => d.parameters.length + 1) = some (pg_na j)) && decide ((pg_cl[ci]?).map (fun r => r.1) = some (pg_yn j).cls) && (decide ((pg_yn j).name = "<init>" ∧ pg_rt j = none ∧ pg_hd j = []) || decide (TT[pg_lp j]? = some (.selects (pg_yn j).cls (pg_yn j) (pg_yn j)))))
theorem ck_m_0 : (List.range 24).all (fun k => ck_mo (0 + k)) = true := by decide +kernel
theorem ck_m_24 : (List.range 24).all (fun k => ck_mo (24 + k)) = true := by decide +kernel
theorem ck_m_48 : (List.range 24).all (fun k => ck_mo (48 + k)) = true := by decide +kernel
theorem ck_m_72 : (List.range 24).all (fun k => ck_mo (72 + k)) = true := by decide +kernel
theorem ck_m_96 : (List.range 24).all (fun k => ck_mo (96 + k)) = true := by decide +kernel
theorem ck_m_120 : (List.range 24).all (fun k => ck_mo (120 + k)) = true := by decide +kernel
theorem ck_m_144 : (List.range 23).all (fun k => ck_mo (144 + k)) = true := by decide +kernel
theorem ck_m : ∀ j, j < 167 → ck_mo j = true := by
  intro j hj
  by_cases h0 : 0 ≤ j ∧ j < 24
  · have h := List.all_eq_true.mp ck_m_0 (j - 0) (List.mem_range.mpr (by omega))
    rw [show 0 + (j - 0) = j by omega] at h
    exact h
  by_cases h24 : 24 ≤ j ∧ j < 48
  · have h := List.all_eq_true.mp ck_m_24 (j - 24) (List.mem_range.mpr (by omega))
    rw [show 24 + (j - 24) = j by omega] at h
    exact h
  by_cases h48 : 48 ≤ j ∧ j < 72
  · have h := List.all_eq_true.mp ck_m_48 (j - 48) (List.mem_range.mpr (by omega))
    rw [show 48 + (j - 48) = j by omega] at h
    exact h
  by_cases h72 : 72 ≤ j ∧ j < 96
  · have h := List.all_eq_true.mp ck_m_72 (j - 72) (List.mem_range.mpr (by omega))
    rw [show 72 + (j - 72) = j by omega] at h
    exact h
  by_cases h96 : 96 ≤ j ∧ j < 120
  · have h := List.all_eq_true.mp ck_m_96 (j - 96) (List.mem_range.mpr (by omega))
    rw [show 96 + (j - 96) = j by omega] at h
    exact h
  by_cases h120 : 120 ≤ j ∧ j < 144
  · have h := List.all_eq_true.mp ck_m_120 (j - 120) (List.mem_range.mpr (by omega))
    rw [show 120 + (j - 120) = j by omega] at h
    exact h
  by_cases h144 : 144 ≤ j ∧ j < 167
  · have h := List.all_eq_true.mp ck_m_144 (j - 144) (List.mem_range.mpr (by omega))
    rw [show 144 + (j - 144) = j by omega] at h
    exact h
  omega
