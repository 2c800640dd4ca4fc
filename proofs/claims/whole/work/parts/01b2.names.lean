theorem bmem_of {big ws : List Cond} (ps : List Nat) (hp : ps.map (fun i => big[i]?) = ws.map some) : ∀ w ∈ ws, w ∈ big := by
  intro w hw
  have h1 : some w ∈ ws.map some := List.mem_map.mpr ⟨w, hw, rfl⟩
  rw [← hp] at h1
  obtain ⟨i, -, hi⟩ := List.mem_map.mp h1
  exact List.mem_of_getElem? hi
set_option maxRecDepth 100000 in
theorem bm_wsL_law0_r1 : ∀ w ∈ wsL_law0_r1, w ∈ lw_tbl := bmem_of [141, 142, 125, 956, 957, 131, 1324, 143, 144, 145, 146, 147, 148, 149, 150, 126, 248, 246, 187, 188, 128, 247, 206, 207] (by decide +kernel)
set_option maxRecDepth 100000 in
theorem bm_wsL_law0_r2 : ∀ w ∈ wsL_law0_r2, w ∈ lw_tbl := bmem_of [129, 249, 244, 213, 130, 250, 152, 153, 154, 155, 156, 127, 179, 178, 181, 158, 159, 160, 174, 164, 165, 166, 168, 0] (by decide +kernel)
set_option maxRecDepth 100000 in
theorem bm_wsL_law0_r3 : ∀ w ∈ wsL_law0_r3, w ∈ lw_tbl := bmem_of [169, 170, 172, 1, 173, 190, 191, 192, 193, 196, 209, 210, 211, 234, 212, 235, 215, 216, 217, 958, 959, 960, 961, 962] (by decide +kernel)
set_option maxRecDepth 100000 in
theorem bm_wsL_law0_r4 : ∀ w ∈ wsL_law0_r4, w ∈ lw_tbl := bmem_of [963, 964, 966, 969, 970, 551, 552, 124, 553, 554, 555, 556, 557, 558, 559, 560, 561, 562, 360, 361, 362, 363, 364, 365] (by decide +kernel)
set_option maxRecDepth 100000 in
theorem bm_wsL_law0_r5 : ∀ w ∈ wsL_law0_r5, w ∈ lw_tbl := bmem_of [366, 135, 448, 24, 449, 343, 345, 18, 346, 563, 564, 565, 566, 136, 584, 44, 585, 197, 198, 586, 588, 45, 589, 592] (by decide +kernel)
set_option maxRecDepth 100000 in
theorem bm_wsL_law0_r6 : ∀ w ∈ wsL_law0_r6, w ∈ lw_tbl := bmem_of [46, 593, 594, 596, 595, 137, 599, 47, 600, 603, 48, 604, 1015, 1016, 1017, 1018, 968, 1019, 1020, 1021, 1022, 1024, 83, 1025] (by decide +kernel)
set_option maxRecDepth 100000 in
theorem bm_wsL_law0_r7 : ∀ w ∈ wsL_law0_r7, w ∈ lw_tbl := bmem_of [1026, 1028, 84, 1029, 965, 1030, 1031, 1032, 1011, 1012, 1013, 1014, 605, 606, 607, 608, 609, 610, 611, 612, 615, 49, 616, 1033] (by decide +kernel)
set_option maxRecDepth 100000 in
theorem bm_wsL_law0_r8 : ∀ w ∈ wsL_law0_r8, w ∈ lw_tbl := bmem_of [1034, 1035, 1036, 1037, 1038, 1039, 1040, 617, 618, 619, 620, 621, 622, 623, 440, 22, 441, 335, 337, 16, 338, 339, 341, 17] (by decide +kernel)
set_option maxRecDepth 100000 in
theorem bm_wsL_law0_r9 : ∀ w ∈ wsL_law0_r9, w ∈ lw_tbl := bmem_of [342, 442, 444, 23, 445, 347, 349, 19, 350, 446, 1041, 1042, 1043, 1044, 1045, 1047, 85, 1048, 1049, 1051, 86, 1052, 624, 625] (by decide +kernel)
set_option maxRecDepth 100000 in
theorem bm_wsL_law0_r10 : ∀ w ∈ wsL_law0_r10, w ∈ lw_tbl := bmem_of [626, 627, 628, 629, 630, 631, 651, 654, 632, 633, 634, 635, 138, 653, 456, 25, 457, 1053, 1054, 1055, 1056, 657, 658, 659] (by decide +kernel)
set_option maxRecDepth 100000 in
theorem bm_wsL_law0_r11 : ∀ w ∈ wsL_law0_r11, w ∈ lw_tbl := bmem_of [660, 661, 662, 663, 664, 666, 50, 667, 668, 670, 51, 671, 676, 52, 677, 678, 466, 27, 467, 1057, 1058, 1059, 1060, 1061] (by decide +kernel)
set_option maxRecDepth 100000 in
theorem bm_wsL_law0_r12 : ∀ w ∈ wsL_law0_r12, w ∈ lw_tbl := bmem_of [1063, 87, 1064, 1065, 1067, 88, 1068, 1069, 1071, 89, 1072, 1073, 1075, 90, 1076, 680, 681, 682, 683, 684, 685, 686, 687, 689] (by decide +kernel)
set_option maxRecDepth 100000 in
theorem bm_wsL_law0_r13 : ∀ w ∈ wsL_law0_r13, w ∈ lw_tbl := bmem_of [53, 690, 691, 693, 54, 694, 698, 55, 699, 474, 476, 29, 477, 478, 480, 30, 481, 702, 56, 703, 1077, 1078, 1079, 1080] (by decide +kernel)
set_option maxRecDepth 100000 in
theorem bm_wsL_law0_r14 : ∀ w ∈ wsL_law0_r14, w ∈ lw_tbl := bmem_of [1081, 1083, 91, 1084, 1085, 1087, 92, 1088, 1089, 1091, 93, 1092, 1093, 1095, 94, 1096, 1097, 1099, 95, 1100, 706, 707, 708, 709] (by decide +kernel)
set_option maxRecDepth 100000 in
theorem bm_wsL_law0_r15 : ∀ w ∈ wsL_law0_r15, w ∈ lw_tbl := bmem_of [710, 711, 712, 715, 57, 716, 717, 718, 719, 722, 58, 723, 724, 726, 59, 727, 1101, 1102, 1103, 1104, 1105, 1107, 96, 1108] (by decide +kernel)
set_option maxRecDepth 100000 in
theorem bm_wsL_law0_r16 : ∀ w ∈ wsL_law0_r16, w ∈ lw_tbl := bmem_of [1109, 1111, 97, 1112, 1113, 1115, 98, 1116, 728, 729, 730, 731, 732, 733, 734, 737, 60, 738, 741, 61, 742, 1117, 1118, 1119] (by decide +kernel)
set_option maxRecDepth 100000 in
theorem bm_wsL_law0_r17 : ∀ w ∈ wsL_law0_r17, w ∈ lw_tbl := bmem_of [1120, 1121, 1123, 99, 1124, 1125, 1127, 100, 1128, 743, 744, 745, 746, 747, 748, 749, 752, 62, 753, 756, 63, 757, 484, 485] (by decide +kernel)
set_option maxRecDepth 100000 in
theorem bm_wsL_law0_r18 : ∀ w ∈ wsL_law0_r18, w ∈ lw_tbl := bmem_of [139, 486, 1129, 1130, 1131, 1132, 1133, 1135, 101, 1136, 1137, 1139, 102, 1140, 1141, 1142, 1143, 758, 759, 760, 761, 762, 763, 764] (by decide +kernel)
set_option maxRecDepth 100000 in
theorem bm_wsL_law0_r19 : ∀ w ∈ wsL_law0_r19, w ∈ lw_tbl := bmem_of [767, 64, 768, 1144, 1145, 1146, 1147, 769, 770, 771, 772, 773, 774, 775, 524, 39, 525, 510, 512, 36, 513, 779, 65, 780] (by decide +kernel)
set_option maxRecDepth 100000 in
theorem bm_wsL_law0_r20 : ∀ w ∈ wsL_law0_r20, w ∈ lw_tbl := bmem_of [526, 528, 40, 529, 530, 532, 41, 533, 534, 536, 42, 537, 1148, 1149, 1150, 1151, 1152, 1154, 103, 1155, 1156, 1158, 104, 1159] (by decide +kernel)
set_option maxRecDepth 100000 in
theorem bm_wsL_law0_r21 : ∀ w ∈ wsL_law0_r21, w ∈ lw_tbl := bmem_of [1160, 1162, 105, 1163, 1164, 1166, 106, 1167, 781, 782, 783, 784, 785, 786, 787, 790, 66, 791, 794, 67, 795, 796, 1168, 1169] (by decide +kernel)
set_option maxRecDepth 100000 in
theorem bm_wsL_law0_r22 : ∀ w ∈ wsL_law0_r22, w ∈ lw_tbl := bmem_of [1170, 1171, 1172, 1174, 107, 1175, 797, 798, 799, 800, 801, 802, 803, 806, 68, 807, 810, 69, 811, 814, 70, 815, 1176, 1177] (by decide +kernel)
set_option maxRecDepth 100000 in
theorem bm_wsL_law0_r23 : ∀ w ∈ wsL_law0_r23, w ∈ lw_tbl := bmem_of [1178, 1179, 816, 817, 818, 819, 820, 821, 822, 268, 2, 269, 236, 825, 71, 826, 1180, 1181, 1182, 1183, 967, 262, 263, 264] (by decide +kernel)
set_option maxRecDepth 100000 in
theorem bm_wsL_law0_r24 : ∀ w ∈ wsL_law0_r24, w ∈ lw_tbl := bmem_of [265, 272, 3, 273, 1184, 1185, 1186, 1187, 274, 275, 276, 277, 280, 4, 281, 284, 5, 285, 218, 219, 220, 221, 222, 286] (by decide +kernel)
set_option maxRecDepth 100000 in
theorem bm_wsL_law0_r25 : ∀ w ∈ wsL_law0_r25, w ∈ lw_tbl := bmem_of [288, 6, 289, 293, 7, 294, 295, 297, 8, 298, 299, 301, 9, 302, 303, 304, 305, 306, 307, 309, 10, 310, 311, 313] (by decide +kernel)
set_option maxRecDepth 100000 in
theorem bm_wsL_law0_r26 : ∀ w ∈ wsL_law0_r26, w ∈ lw_tbl := bmem_of [11, 314, 315, 317, 12, 318, 319, 321, 13, 322, 1188, 1189, 1190, 1191, 1192, 1194, 108, 1195, 971, 1196, 1198, 109, 1199, 972] (by decide +kernel)
set_option maxRecDepth 100000 in
theorem bm_wsL_law0_r27 : ∀ w ∈ wsL_law0_r27, w ∈ lw_tbl := bmem_of [973, 977, 974, 975, 1200, 1202, 110, 1203, 1204, 1206, 111, 1207, 1208, 1210, 112, 1211, 976, 827, 828, 829, 830, 831, 832, 833] (by decide +kernel)
set_option maxRecDepth 100000 in
theorem bm_wsL_law0_r28 : ∀ w ∈ wsL_law0_r28, w ∈ lw_tbl := bmem_of [836, 72, 837, 838, 840, 842, 73, 843, 847, 74, 848, 851, 75, 852, 855, 76, 856, 857, 859, 77, 860, 861, 863, 78] (by decide +kernel)
set_option maxRecDepth 100000 in
theorem bm_wsL_law0_r29 : ∀ w ∈ wsL_law0_r29, w ∈ lw_tbl := bmem_of [864, 867, 79, 868, 869, 871, 80, 872, 876, 81, 877, 1212, 1213, 1214, 1215, 1216, 1218, 113, 1219, 1220, 1222, 114, 1223, 878] (by decide +kernel)
set_option maxRecDepth 100000 in
theorem bm_wsL_law0_r30 : ∀ w ∈ wsL_law0_r30, w ∈ lw_tbl := bmem_of [879, 880, 881, 882, 883, 884, 436, 21, 437, 887, 82, 888, 1224, 1225, 1226, 1227, 889, 890, 891, 892, 893, 894, 895, 333] (by decide +kernel)
set_option maxRecDepth 100000 in
theorem bm_wsL_law0_r31 : ∀ w ∈ wsL_law0_r31, w ∈ lw_tbl := bmem_of [15, 334, 1228, 1229, 1230, 1231, 1232, 1234, 115, 1235, 1236, 1238, 116, 1239, 896, 897, 898, 899, 900, 901, 902, 491, 492, 493] (by decide +kernel)
set_option maxRecDepth 100000 in
theorem bm_wsL_law0_r32 : ∀ w ∈ wsL_law0_r32, w ∈ lw_tbl := bmem_of [496, 32, 497, 498, 500, 33, 501, 1240, 1241, 1242, 1243, 1244, 1246, 117, 1247, 1248, 1250, 118, 1251, 903, 904, 905, 906, 357] (by decide +kernel)
set_option maxRecDepth 100000 in
theorem bm_wsL_law0_r33 : ∀ w ∈ wsL_law0_r33, w ∈ lw_tbl := bmem_of [358, 359, 1252, 1253, 1254, 1255, 1256, 1258, 119, 1259, 907, 908, 909, 910, 911, 912, 913, 1260, 1261, 1262, 1263, 914, 915, 916] (by decide +kernel)
set_option maxRecDepth 100000 in
theorem bm_wsL_law0_r34 : ∀ w ∈ wsL_law0_r34, w ∈ lw_tbl := bmem_of [917, 918, 919, 920, 1264, 1265, 1266, 1267, 921, 922, 923, 924, 925, 926, 927, 1268, 1269, 1270, 1271, 928, 929, 930, 931, 932] (by decide +kernel)
set_option maxRecDepth 100000 in
theorem bm_wsL_law0_r35 : ∀ w ∈ wsL_law0_r35, w ∈ lw_tbl := bmem_of [933, 934, 472, 28, 473, 1272, 1273, 1274, 1275, 1276, 1278, 120, 1279, 935, 936, 937, 938, 939, 940, 941, 520, 38, 521, 522] (by decide +kernel)
set_option maxRecDepth 100000 in
theorem bm_wsL_law0_r36 : ∀ w ∈ wsL_law0_r36, w ∈ lw_tbl := bmem_of [1280, 1281, 1282, 1283, 1284, 1286, 121, 1287, 942, 943, 944, 945, 946, 947, 948, 1288, 1289, 1290, 1291, 949, 950, 951, 952, 953] (by decide +kernel)
set_option maxRecDepth 100000 in
theorem bm_wsL_law0_r37 : ∀ w ∈ wsL_law0_r37, w ∈ lw_tbl := bmem_of [954, 955, 504, 34, 505, 506, 508, 35, 509, 1292, 1293, 1294, 1295, 1296, 1298, 122, 1299, 323, 324, 325, 326, 329, 14, 330] (by decide +kernel)
set_option maxRecDepth 100000 in
theorem bm_wsL_law0_r38 : ∀ w ∈ wsL_law0_r38, w ∈ lw_tbl := bmem_of [331, 1300, 1301, 1302, 1303, 1304, 1306, 123, 1307, 351, 352, 353, 354, 355, 356, 450, 451, 452, 453, 459, 461, 26, 462, 487] (by decide +kernel)
set_option maxRecDepth 100000 in
theorem bm_wsL_law0_r39 : ∀ w ∈ wsL_law0_r39, w ∈ lw_tbl := bmem_of [489, 31, 490, 514, 516, 37, 517, 539, 540, 541, 542, 543, 544, 545, 546, 548, 43, 549, 1308, 1309, 1310, 1311, 1312, 1313] (by decide +kernel)
set_option maxRecDepth 100000 in
theorem bm_wsL_law0_r40 : ∀ w ∈ wsL_law0_r40, w ∈ lw_tbl := bmem_of [1314, 1315, 140, 1316, 1320, 1322, 1321, 140, 1323, 1317, 1318, 1319] (by decide +kernel)
set_option maxRecDepth 100000 in
theorem bm_wsX50 : ∀ w ∈ wsX50, w ∈ lw_tbl := bmem_of [251, 253, 255, 257, 259] (by decide +kernel)
set_option maxRecDepth 100000 in
theorem bm_wsX60 : ∀ w ∈ wsX60, w ∈ lw_tbl := bmem_of [978, 980, 982, 984, 986, 988, 990, 992, 994, 996, 998, 1000, 1002, 1004, 1006, 1008] (by decide +kernel)
set_option maxRecDepth 100000 in
theorem bm_wsX40 : ∀ w ∈ wsX40, w ∈ lw_tbl := bmem_of [182, 184] (by decide +kernel)
set_option maxRecDepth 100000 in
theorem bm_wsX10 : ∀ w ∈ wsX10, w ∈ lw_tbl := bmem_of [199, 201, 203] (by decide +kernel)
set_option maxRecDepth 100000 in
theorem bm_wsX30 : ∀ w ∈ wsX30, w ∈ lw_tbl := bmem_of [237, 239, 241] (by decide +kernel)
set_option maxRecDepth 100000 in
theorem bm_wsX00 : ∀ w ∈ wsX00, w ∈ lw_tbl := bmem_of [223, 225, 227, 229, 231] (by decide +kernel)
set_option maxRecDepth 100000 in
theorem bm_wsX20 : ∀ w ∈ wsX20, w ∈ lw_tbl := bmem_of [175] (by decide +kernel)
set_option maxRecDepth 20000 in
theorem wsL_law_in0 : ∀ w ∈ wsL_law0, w ∈ lw_tbl := fun w h => (List.mem_append.mp h).elim (fun h => (List.mem_append.mp h).elim (fun h => (List.mem_append.mp h).elim (fun h => (List.mem_append.mp h).elim (fun h => (List.mem_append.mp h).elim (fun h => (List.mem_append.mp h).elim (fun h => (List.mem_append.mp h).elim (fun h => (List.mem_append.mp h).elim (fun h => (List.mem_append.mp h).elim (fun h => bm_wsL_law0_r1 w h) (fun h => (List.mem_append.mp h).elim (fun h => bm_wsL_law0_r2 w h) (fun h => (List.mem_append.mp h).elim (fun h => bm_wsL_law0_r3 w h) (fun h => (List.mem_append.mp h).elim (fun h => bm_wsL_law0_r4 w h) (fun h => (List.mem_append.mp h).elim (fun h => bm_wsL_law0_r5 w h) (fun h => (List.mem_append.mp h).elim (fun h => bm_wsL_law0_r6 w h) (fun h => (List.mem_append.mp h).elim (fun h => bm_wsL_law0_r7 w h) (fun h => (List.mem_append.mp h).elim (fun h => bm_wsL_law0_r8 w h) (fun h => (List.mem_append.mp h).elim (fun h => bm_wsL_law0_r9 w h) (fun h => (List.mem_append.mp h).elim (fun h => bm_wsL_law0_r10 w h) (fun h => (List.mem_append.mp h).elim (fun h => bm_wsL_law0_r11 w h) (fun h => (List.mem_append.mp h).elim (fun h => bm_wsL_law0_r12 w h) (fun h => (List.mem_append.mp h).elim (fun h => bm_wsL_law0_r13 w h) (fun h => (List.mem_append.mp h).elim (fun h => bm_wsL_law0_r14 w h) (fun h => (List.mem_append.mp h).elim (fun h => bm_wsL_law0_r15 w h) (fun h => (List.mem_append.mp h).elim (fun h => bm_wsL_law0_r16 w h) (fun h => (List.mem_append.mp h).elim (fun h => bm_wsL_law0_r17 w h) (fun h => (List.mem_append.mp h).elim (fun h => bm_wsL_law0_r18 w h) (fun h => (List.mem_append.mp h).elim (fun h => bm_wsL_law0_r19 w h) (fun h => (List.mem_append.mp h).elim (fun h => bm_wsL_law0_r20 w h) (fun h => (List.mem_append.mp h).elim (fun h => bm_wsL_law0_r21 w h) (fun h => (List.mem_append.mp h).elim (fun h => bm_wsL_law0_r22 w h) (fun h => (List.mem_append.mp h).elim (fun h => bm_wsL_law0_r23 w h) (fun h => (List.mem_append.mp h).elim (fun h => bm_wsL_law0_r24 w h) (fun h => (List.mem_append.mp h).elim (fun h => bm_wsL_law0_r25 w h) (fun h => (List.mem_append.mp h).elim (fun h => bm_wsL_law0_r26 w h) (fun h => (List.mem_append.mp h).elim (fun h => bm_wsL_law0_r27 w h) (fun h => (List.mem_append.mp h).elim (fun h => bm_wsL_law0_r28 w h) (fun h => (List.mem_append.mp h).elim (fun h => bm_wsL_law0_r29 w h) (fun h => (List.mem_append.mp h).elim (fun h => bm_wsL_law0_r30 w h) (fun h => (List.mem_append.mp h).elim (fun h => bm_wsL_law0_r31 w h) (fun h => (List.mem_append.mp h).elim (fun h => bm_wsL_law0_r32 w h) (fun h => (List.mem_append.mp h).elim (fun h => bm_wsL_law0_r33 w h) (fun h => (List.mem_append.mp h).elim (fun h => bm_wsL_law0_r34 w h) (fun h => (List.mem_append.mp h).elim (fun h => bm_wsL_law0_r35 w h) (fun h => (List.mem_append.mp h).elim (fun h => bm_wsL_law0_r36 w h) (fun h => (List.mem_append.mp h).elim (fun h => bm_wsL_law0_r37 w h) (fun h => (List.mem_append.mp h).elim (fun h => bm_wsL_law0_r38 w h) (fun h => (List.mem_append.mp h).elim (fun h => bm_wsL_law0_r39 w h) (fun h => bm_wsL_law0_r40 w h)))))))))))))))))))))))))))))))))))))))) (fun h => bm_wsX50 w h)) (fun h => bm_wsX60 w h)) (fun h => bm_wsX40 w h)) (fun h => bm_wsX10 w h)) (fun h => bm_wsX30 w h)) (fun h => bm_wsX00 w h)) (fun h => bm_wsX20 w h)) (fun h => absurd h List.not_mem_nil)
theorem wsL_law_x0 : ∀ w ∈ (vx_atS RX5 304 "java/lang/IllegalArgumentException" ["java/lang/RuntimeException", "java/lang/Exception"]).filter goodWord, w ∈ lw_tbl := by decide +kernel
theorem wsL_law_x1 : ∀ w ∈ (vx_atS RX5 309 "java/lang/IllegalStateException" ["java/lang/RuntimeException", "java/lang/Exception"]).filter goodWord, w ∈ lw_tbl := by decide +kernel
theorem wsL_law_x2 : ∀ w ∈ (vx_atS RX5 293 "java/lang/IndexOutOfBoundsException" ["java/lang/RuntimeException", "java/lang/Exception"]).filter goodWord, w ∈ lw_tbl := by decide +kernel
theorem wsL_law_in : ∀ w ∈ wsL_law, w ∈ lw_tbl := fun w h => (List.mem_append.mp h).elim (fun h => (List.mem_append.mp h).elim (fun h => (List.mem_append.mp h).elim (fun h => wsL_law_in0 w h) (fun h => wsL_law_x0 w h)) (fun h => wsL_law_x1 w h)) (fun h => wsL_law_x2 w h)
theorem inlX0 : ∀ w ∈ wsX00, w ∈ wsL_law := fun _ h => List.mem_append_left _ (List.mem_append_left _ (List.mem_append_left _ (List.mem_append_left _ (List.mem_append_left _ (List.mem_append_right _ h)))))
theorem inX0 : ∀ w ∈ wsX00, w ∈ lw_tbl := fun w h => wsL_law_in w (inlX0 w h)
theorem inlX1 : ∀ w ∈ wsX10, w ∈ wsL_law := fun _ h => List.mem_append_left _ (List.mem_append_left _ (List.mem_append_left _ (List.mem_append_left _ (List.mem_append_left _ (List.mem_append_left _ (List.mem_append_left _ (List.mem_append_right _ h)))))))
theorem inX1 : ∀ w ∈ wsX10, w ∈ lw_tbl := fun w h => wsL_law_in w (inlX1 w h)
theorem inlX2 : ∀ w ∈ wsX20, w ∈ wsL_law := fun _ h => List.mem_append_left _ (List.mem_append_left _ (List.mem_append_left _ (List.mem_append_left _ (List.mem_append_right _ h))))
theorem inX2 : ∀ w ∈ wsX20, w ∈ lw_tbl := fun w h => wsL_law_in w (inlX2 w h)
theorem inlX3 : ∀ w ∈ wsX30, w ∈ wsL_law := fun _ h => List.mem_append_left _ (List.mem_append_left _ (List.mem_append_left _ (List.mem_append_left _ (List.mem_append_left _ (List.mem_append_left _ (List.mem_append_right _ h))))))
theorem inX3 : ∀ w ∈ wsX30, w ∈ lw_tbl := fun w h => wsL_law_in w (inlX3 w h)
theorem inlX4 : ∀ w ∈ wsX40, w ∈ wsL_law := fun _ h => List.mem_append_left _ (List.mem_append_left _ (List.mem_append_left _ (List.mem_append_left _ (List.mem_append_left _ (List.mem_append_left _ (List.mem_append_left _ (List.mem_append_left _ (List.mem_append_right _ h))))))))
theorem inX4 : ∀ w ∈ wsX40, w ∈ lw_tbl := fun w h => wsL_law_in w (inlX4 w h)
theorem inlX5 : ∀ w ∈ wsX50, w ∈ wsL_law := fun _ h => List.mem_append_left _ (List.mem_append_left _ (List.mem_append_left _ (List.mem_append_left _ (List.mem_append_left _ (List.mem_append_left _ (List.mem_append_left _ (List.mem_append_left _ (List.mem_append_left _ (List.mem_append_left _ (List.mem_append_right _ h))))))))))
theorem inX5 : ∀ w ∈ wsX50, w ∈ lw_tbl := fun w h => wsL_law_in w (inlX5 w h)
theorem inlX6 : ∀ w ∈ wsX60, w ∈ wsL_law := fun _ h => List.mem_append_left _ (List.mem_append_left _ (List.mem_append_left _ (List.mem_append_left _ (List.mem_append_left _ (List.mem_append_left _ (List.mem_append_left _ (List.mem_append_left _ (List.mem_append_left _ (List.mem_append_right _ h)))))))))
theorem inX6 : ∀ w ∈ wsX60, w ∈ lw_tbl := fun w h => wsL_law_in w (inlX6 w h)
theorem inJxe99ae : ∀ w ∈ wsJxe99ae0, w ∈ lw_tbl := by decide +kernel
theorem inJ9 : ∀ w ∈ wsJ90, w ∈ lw_tbl := by decide +kernel
theorem inJ0 : ∀ w ∈ wsJ00, w ∈ lw_tbl := by decide +kernel
theorem inJ10 : ∀ w ∈ wsJ100, w ∈ lw_tbl := by decide +kernel
theorem dX0_init_0 : decode cX0_init 0 = .ok (.aload_n 0, 1) := by decide +kernel
theorem dX0_init_1 : decode cX0_init 1 = .ok (.invokespecial 3, 3) := by decide +kernel
theorem dX0_init_4 : decode cX0_init 4 = .ok (.return_, 1) := by decide +kernel
theorem dX0_begin_0 : decode cX0_begin 0 = .ok (.aload_n 0, 1) := by decide +kernel
theorem dX0_begin_1 : decode cX0_begin 1 = .ok (.iconst 0, 1) := by decide +kernel
theorem dX0_begin_2 : decode cX0_begin 2 = .ok (.putfield 11, 3) := by decide +kernel
theorem dX0_begin_5 : decode cX0_begin 5 = .ok (.aload_n 0, 1) := by decide +kernel
theorem dX0_begin_6 : decode cX0_begin 6 = .ok (.iconst 0, 1) := by decide +kernel
theorem dX0_begin_7 : decode cX0_begin 7 = .ok (.putfield 15, 3) := by decide +kernel
theorem dX0_begin_10 : decode cX0_begin 10 = .ok (.aload_n 0, 1) := by decide +kernel
theorem dX0_begin_11 : decode cX0_begin 11 = .ok (.iconst 0, 1) := by decide +kernel
theorem dX0_begin_12 : decode cX0_begin 12 = .ok (.putfield 18, 3) := by decide +kernel
theorem dX0_begin_15 : decode cX0_begin 15 = .ok (.aload_n 0, 1) := by decide +kernel
theorem dX0_begin_16 : decode cX0_begin 16 = .ok (.iconst 0, 1) := by decide +kernel
theorem dX0_begin_17 : decode cX0_begin 17 = .ok (.putfield 21, 3) := by decide +kernel
theorem dX0_begin_20 : decode cX0_begin 20 = .ok (.aload_n 0, 1) := by decide +kernel
theorem dX0_begin_21 : decode cX0_begin 21 = .ok (.iconst 0, 1) := by decide +kernel
theorem dX0_begin_22 : decode cX0_begin 22 = .ok (.putfield 24, 3) := by decide +kernel
theorem dX0_begin_25 : decode cX0_begin 25 = .ok (.return_, 1) := by decide +kernel
theorem dX0_letter_0 : decode cX0_letter 0 = .ok (.aload_n 0, 1) := by decide +kernel
theorem dX0_letter_1 : decode cX0_letter 1 = .ok (.getfield 15, 3) := by decide +kernel
theorem dX0_letter_4 : decode cX0_letter 4 = .ok (.ireturn, 1) := by decide +kernel
theorem dX0_first_0 : decode cX0_first 0 = .ok (.aload_n 0, 1) := by decide +kernel
theorem dX0_first_1 : decode cX0_first 1 = .ok (.getfield 18, 3) := by decide +kernel
theorem dX0_first_4 : decode cX0_first 4 = .ok (.ireturn, 1) := by decide +kernel
theorem dX0_second_0 : decode cX0_second 0 = .ok (.aload_n 0, 1) := by decide +kernel
theorem dX0_second_1 : decode cX0_second 1 = .ok (.getfield 21, 3) := by decide +kernel
theorem dX0_second_4 : decode cX0_second 4 = .ok (.ireturn, 1) := by decide +kernel
theorem dX0_number_0 : decode cX0_number 0 = .ok (.aload_n 0, 1) := by decide +kernel
theorem dX0_number_1 : decode cX0_number 1 = .ok (.getfield 24, 3) := by decide +kernel
theorem dX0_number_4 : decode cX0_number 4 = .ok (.ireturn, 1) := by decide +kernel
theorem dX0_isWhole_0 : decode cX0_isWhole 0 = .ok (.aload_n 0, 1) := by decide +kernel
theorem dX0_isWhole_1 : decode cX0_isWhole 1 = .ok (.getfield 11, 3) := by decide +kernel
theorem dX0_isWhole_4 : decode cX0_isWhole 4 = .ok (.iconst 5, 1) := by decide +kernel
theorem dX0_isWhole_5 : decode cX0_isWhole 5 = .ok (.if_icmp .ne 14, 3) := by decide +kernel
theorem dX0_isWhole_8 : decode cX0_isWhole 8 = .ok (.aload_n 0, 1) := by decide +kernel
theorem dX0_isWhole_9 : decode cX0_isWhole 9 = .ok (.getfield 24, 3) := by decide +kernel
theorem dX0_isWhole_12 : decode cX0_isWhole 12 = .ok (.ifCond .le 7, 3) := by decide +kernel
theorem dX0_isWhole_15 : decode cX0_isWhole 15 = .ok (.iconst 1, 1) := by decide +kernel
theorem dX0_isWhole_16 : decode cX0_isWhole 16 = .ok (.goto 4, 3) := by decide +kernel
theorem dX0_isWhole_19 : decode cX0_isWhole 19 = .ok (.iconst 0, 1) := by decide +kernel
theorem dX0_isWhole_20 : decode cX0_isWhole 20 = .ok (.ireturn, 1) := by decide +kernel
set_option maxRecDepth 20000 in
theorem ggX0_takes_X0_takesNumber : GoodIn wsX0_takes wsX0_takesNumber := goodIn_r _ [6, 7, 8, 9, 10, 5, 11, 1, 12, 13, 14, 15, 16, 17, 18, 19, 20, 21, 22, 23, 24, 25, 38, 39, 40, 41, 42] (by decide +kernel) (by decide +kernel)
set_option maxRecDepth 20000 in
theorem gX0_takes_X0_takesNumber : GoodIn wsX0_takes (wsV RX0 27 RX0 yX0_takesNumber wsX0_takesNumber) := goodIn_app (goodIn_of _ (by decide +kernel)) ggX0_takes_X0_takesNumber
set_option maxRecDepth 20000 in
theorem ggX0_takes_X0_fits : GoodIn wsX0_takes wsX0_fits := goodIn_r _ [29, 1, 16, 19, 20, 5, 21, 30, 31, 32, 33, 38, 39, 40, 41, 42] (by decide +kernel) (by decide +kernel)
set_option maxRecDepth 20000 in
theorem gX0_takes_X0_fits : GoodIn wsX0_takes (wsV RX0 31 RX0 yX0_fits wsX0_fits) := goodIn_app (goodIn_of _ (by decide +kernel)) ggX0_takes_X0_fits
set_option maxRecDepth 20000 in
theorem ggX0_takes_X0_keep : GoodIn wsX0_takes wsX0_keep := goodIn_r _ [37, 1, 16, 17, 18, 38, 39, 40, 41, 42] (by decide +kernel) (by decide +kernel)
set_option maxRecDepth 20000 in
theorem gX0_takes_X0_keep : GoodIn wsX0_takes (wsV RX0 34 RX0 yX0_keep wsX0_keep) := goodIn_app (goodIn_of _ (by decide +kernel)) ggX0_takes_X0_keep
theorem dX0_takes_0 : decode cX0_takes 0 = .ok (.aload_n 0, 1) := by decide +kernel
theorem dX0_takes_1 : decode cX0_takes 1 = .ok (.getfield 11, 3) := by decide +kernel
theorem dX0_takes_4 : decode cX0_takes 4 = .ok (.iconst 5, 1) := by decide +kernel
theorem dX0_takes_5 : decode cX0_takes 5 = .ok (.if_icmp .ne 9, 3) := by decide +kernel
theorem dX0_takes_8 : decode cX0_takes 8 = .ok (.aload_n 0, 1) := by decide +kernel
theorem dX0_takes_9 : decode cX0_takes 9 = .ok (.iload_n 1, 1) := by decide +kernel
theorem dX0_takes_10 : decode cX0_takes 10 = .ok (.invokevirtual 27, 3) := by decide +kernel
theorem dX0_takes_13 : decode cX0_takes 13 = .ok (.ireturn, 1) := by decide +kernel
theorem dX0_takes_14 : decode cX0_takes 14 = .ok (.aload_n 0, 1) := by decide +kernel
theorem dX0_takes_15 : decode cX0_takes 15 = .ok (.iload_n 1, 1) := by decide +kernel
theorem dX0_takes_16 : decode cX0_takes 16 = .ok (.invokevirtual 31, 3) := by decide +kernel
theorem dX0_takes_19 : decode cX0_takes 19 = .ok (.istore_n 2, 1) := by decide +kernel
theorem dX0_takes_20 : decode cX0_takes 20 = .ok (.iload_n 2, 1) := by decide +kernel
theorem dX0_takes_21 : decode cX0_takes 21 = .ok (.ifCond .eq 18, 3) := by decide +kernel
theorem dX0_takes_24 : decode cX0_takes 24 = .ok (.aload_n 0, 1) := by decide +kernel
theorem dX0_takes_25 : decode cX0_takes 25 = .ok (.iload_n 1, 1) := by decide +kernel
theorem dX0_takes_26 : decode cX0_takes 26 = .ok (.invokevirtual 34, 3) := by decide +kernel
theorem dX0_takes_29 : decode cX0_takes 29 = .ok (.aload_n 0, 1) := by decide +kernel
theorem dX0_takes_30 : decode cX0_takes 30 = .ok (.dup, 1) := by decide +kernel
theorem dX0_takes_31 : decode cX0_takes 31 = .ok (.getfield 11, 3) := by decide +kernel
theorem dX0_takes_34 : decode cX0_takes 34 = .ok (.iconst 1, 1) := by decide +kernel
theorem dX0_takes_35 : decode cX0_takes 35 = .ok (.iadd, 1) := by decide +kernel
theorem dX0_takes_36 : decode cX0_takes 36 = .ok (.putfield 11, 3) := by decide +kernel
theorem dX0_takes_39 : decode cX0_takes 39 = .ok (.iload_n 2, 1) := by decide +kernel
theorem dX0_takes_40 : decode cX0_takes 40 = .ok (.ireturn, 1) := by decide +kernel
set_option maxRecDepth 20000 in
theorem ggX0_fits_X0_isDigitBelow : GoodIn wsX0_fits wsX0_isDigitBelow := goodIn_r _ [6] (by decide +kernel) (by decide +kernel)
set_option maxRecDepth 20000 in
theorem gX0_fits_X0_isDigitBelow : GoodIn wsX0_fits (va_wsS RX0 38 yX0_isDigitBelow wsX0_isDigitBelow) := goodIn_app (goodIn_of _ (by decide +kernel)) ggX0_fits_X0_isDigitBelow
set_option maxRecDepth 20000 in
theorem ggX0_fits_X0_secondBound : GoodIn wsX0_fits wsX0_secondBound := goodIn_r _ [10, 2, 11, 12, 13, 14, 15] (by decide +kernel) (by decide +kernel)
set_option maxRecDepth 20000 in
theorem gX0_fits_X0_secondBound : GoodIn wsX0_fits (wsV RX0 42 RX0 yX0_secondBound wsX0_secondBound) := goodIn_app (goodIn_of _ (by decide +kernel)) ggX0_fits_X0_secondBound
theorem dX0_fits_0 : decode cX0_fits 0 = .ok (.aload_n 0, 1) := by decide +kernel
theorem dX0_fits_1 : decode cX0_fits 1 = .ok (.getfield 11, 3) := by decide +kernel
theorem dX0_fits_4 : decode cX0_fits 4 = .ok (.tableswitch 124 0 3 #[32, 68, 89, 115], 32) := by decide +kernel
theorem dX0_fits_36 : decode cX0_fits 36 = .ok (.iload_n 1, 1) := by decide +kernel
theorem dX0_fits_37 : decode cX0_fits 37 = .ok (.bipush 100, 2) := by decide +kernel
theorem dX0_fits_39 : decode cX0_fits 39 = .ok (.if_icmp .eq 27, 3) := by decide +kernel
theorem dX0_fits_42 : decode cX0_fits 42 = .ok (.iload_n 1, 1) := by decide +kernel
theorem dX0_fits_43 : decode cX0_fits 43 = .ok (.bipush 115, 2) := by decide +kernel
theorem dX0_fits_45 : decode cX0_fits 45 = .ok (.if_icmp .eq 21, 3) := by decide +kernel
theorem dX0_fits_48 : decode cX0_fits 48 = .ok (.iload_n 1, 1) := by decide +kernel
theorem dX0_fits_49 : decode cX0_fits 49 = .ok (.bipush 114, 2) := by decide +kernel
theorem dX0_fits_51 : decode cX0_fits 51 = .ok (.if_icmp .eq 15, 3) := by decide +kernel
theorem dX0_fits_54 : decode cX0_fits 54 = .ok (.iload_n 1, 1) := by decide +kernel
theorem dX0_fits_55 : decode cX0_fits 55 = .ok (.bipush 98, 2) := by decide +kernel
theorem dX0_fits_57 : decode cX0_fits 57 = .ok (.if_icmp .eq 9, 3) := by decide +kernel
theorem dX0_fits_60 : decode cX0_fits 60 = .ok (.iload_n 1, 1) := by decide +kernel
theorem dX0_fits_61 : decode cX0_fits 61 = .ok (.bipush 99, 2) := by decide +kernel
theorem dX0_fits_63 : decode cX0_fits 63 = .ok (.if_icmp .ne 7, 3) := by decide +kernel
theorem dX0_fits_66 : decode cX0_fits 66 = .ok (.iconst 1, 1) := by decide +kernel
theorem dX0_fits_67 : decode cX0_fits 67 = .ok (.goto 4, 3) := by decide +kernel
theorem dX0_fits_70 : decode cX0_fits 70 = .ok (.iconst 0, 1) := by decide +kernel
theorem dX0_fits_71 : decode cX0_fits 71 = .ok (.ireturn, 1) := by decide +kernel
theorem dX0_fits_72 : decode cX0_fits 72 = .ok (.iload_n 1, 1) := by decide +kernel
theorem dX0_fits_73 : decode cX0_fits 73 = .ok (.aload_n 0, 1) := by decide +kernel
theorem dX0_fits_74 : decode cX0_fits 74 = .ok (.getfield 15, 3) := by decide +kernel
theorem dX0_fits_77 : decode cX0_fits 77 = .ok (.bipush 100, 2) := by decide +kernel
theorem dX0_fits_79 : decode cX0_fits 79 = .ok (.if_icmp .ne 8, 3) := by decide +kernel
theorem dX0_fits_82 : decode cX0_fits 82 = .ok (.bipush 8, 2) := by decide +kernel
theorem dX0_fits_84 : decode cX0_fits 84 = .ok (.goto 5, 3) := by decide +kernel
theorem dX0_fits_87 : decode cX0_fits 87 = .ok (.bipush 6, 2) := by decide +kernel
theorem dX0_fits_89 : decode cX0_fits 89 = .ok (.invokestatic 38, 3) := by decide +kernel
theorem dX0_fits_92 : decode cX0_fits 92 = .ok (.ireturn, 1) := by decide +kernel
theorem dX0_fits_93 : decode cX0_fits 93 = .ok (.iload_n 1, 1) := by decide +kernel
theorem dX0_fits_94 : decode cX0_fits 94 = .ok (.aload_n 0, 1) := by decide +kernel
theorem dX0_fits_95 : decode cX0_fits 95 = .ok (.getfield 15, 3) := by decide +kernel
theorem dX0_fits_98 : decode cX0_fits 98 = .ok (.bipush 100, 2) := by decide +kernel
theorem dX0_fits_100 : decode cX0_fits 100 = .ok (.if_icmp .ne 8, 3) := by decide +kernel
theorem dX0_fits_103 : decode cX0_fits 103 = .ok (.bipush 62, 2) := by decide +kernel
theorem dX0_fits_105 : decode cX0_fits 105 = .ok (.goto 5, 3) := by decide +kernel
theorem dX0_fits_108 : decode cX0_fits 108 = .ok (.bipush 58, 2) := by decide +kernel
theorem dX0_fits_110 : decode cX0_fits 110 = .ok (.if_icmp .ne 7, 3) := by decide +kernel
theorem dX0_fits_113 : decode cX0_fits 113 = .ok (.iconst 1, 1) := by decide +kernel
theorem dX0_fits_114 : decode cX0_fits 114 = .ok (.goto 4, 3) := by decide +kernel
theorem dX0_fits_117 : decode cX0_fits 117 = .ok (.iconst 0, 1) := by decide +kernel
theorem dX0_fits_118 : decode cX0_fits 118 = .ok (.ireturn, 1) := by decide +kernel
theorem dX0_fits_119 : decode cX0_fits 119 = .ok (.iload_n 1, 1) := by decide +kernel
theorem dX0_fits_120 : decode cX0_fits 120 = .ok (.aload_n 0, 1) := by decide +kernel
theorem dX0_fits_121 : decode cX0_fits 121 = .ok (.invokevirtual 42, 3) := by decide +kernel
theorem dX0_fits_124 : decode cX0_fits 124 = .ok (.invokestatic 38, 3) := by decide +kernel
theorem dX0_fits_127 : decode cX0_fits 127 = .ok (.ireturn, 1) := by decide +kernel
theorem dX0_fits_128 : decode cX0_fits 128 = .ok (.iload_n 1, 1) := by decide +kernel
theorem dX0_fits_129 : decode cX0_fits 129 = .ok (.bipush 42, 2) := by decide +kernel
theorem dX0_fits_131 : decode cX0_fits 131 = .ok (.if_icmp .ne 7, 3) := by decide +kernel
theorem dX0_fits_134 : decode cX0_fits 134 = .ok (.iconst 1, 1) := by decide +kernel
theorem dX0_fits_135 : decode cX0_fits 135 = .ok (.goto 4, 3) := by decide +kernel
theorem dX0_fits_138 : decode cX0_fits 138 = .ok (.iconst 0, 1) := by decide +kernel
theorem dX0_fits_139 : decode cX0_fits 139 = .ok (.ireturn, 1) := by decide +kernel
theorem dX0_keep_0 : decode cX0_keep 0 = .ok (.aload_n 0, 1) := by decide +kernel
theorem dX0_keep_1 : decode cX0_keep 1 = .ok (.getfield 11, 3) := by decide +kernel
theorem dX0_keep_4 : decode cX0_keep 4 = .ok (.ifCond .ne 11, 3) := by decide +kernel
theorem dX0_keep_7 : decode cX0_keep 7 = .ok (.aload_n 0, 1) := by decide +kernel
theorem dX0_keep_8 : decode cX0_keep 8 = .ok (.iload_n 1, 1) := by decide +kernel
theorem dX0_keep_9 : decode cX0_keep 9 = .ok (.putfield 15, 3) := by decide +kernel
theorem dX0_keep_12 : decode cX0_keep 12 = .ok (.goto 38, 3) := by decide +kernel
theorem dX0_keep_15 : decode cX0_keep 15 = .ok (.aload_n 0, 1) := by decide +kernel
theorem dX0_keep_16 : decode cX0_keep 16 = .ok (.getfield 11, 3) := by decide +kernel
theorem dX0_keep_19 : decode cX0_keep 19 = .ok (.iconst 1, 1) := by decide +kernel
theorem dX0_keep_20 : decode cX0_keep 20 = .ok (.if_icmp .ne 14, 3) := by decide +kernel
theorem dX0_keep_23 : decode cX0_keep 23 = .ok (.aload_n 0, 1) := by decide +kernel
theorem dX0_keep_24 : decode cX0_keep 24 = .ok (.iload_n 1, 1) := by decide +kernel
theorem dX0_keep_25 : decode cX0_keep 25 = .ok (.bipush 48, 2) := by decide +kernel
theorem dX0_keep_27 : decode cX0_keep 27 = .ok (.isub, 1) := by decide +kernel
theorem dX0_keep_28 : decode cX0_keep 28 = .ok (.putfield 18, 3) := by decide +kernel
theorem dX0_keep_31 : decode cX0_keep 31 = .ok (.goto 19, 3) := by decide +kernel
theorem dX0_keep_34 : decode cX0_keep 34 = .ok (.aload_n 0, 1) := by decide +kernel
theorem dX0_keep_35 : decode cX0_keep 35 = .ok (.getfield 11, 3) := by decide +kernel
theorem dX0_keep_38 : decode cX0_keep 38 = .ok (.iconst 3, 1) := by decide +kernel
theorem dX0_keep_39 : decode cX0_keep 39 = .ok (.if_icmp .ne 11, 3) := by decide +kernel
theorem dX0_keep_42 : decode cX0_keep 42 = .ok (.aload_n 0, 1) := by decide +kernel
theorem dX0_keep_43 : decode cX0_keep 43 = .ok (.iload_n 1, 1) := by decide +kernel
theorem dX0_keep_44 : decode cX0_keep 44 = .ok (.bipush 48, 2) := by decide +kernel
theorem dX0_keep_46 : decode cX0_keep 46 = .ok (.isub, 1) := by decide +kernel
theorem dX0_keep_47 : decode cX0_keep 47 = .ok (.putfield 21, 3) := by decide +kernel
theorem dX0_keep_50 : decode cX0_keep 50 = .ok (.return_, 1) := by decide +kernel
set_option maxRecDepth 20000 in
theorem ggX0_takesNumber_X0_isWhole : GoodIn wsX0_takesNumber wsX0_isWhole := goodIn_r _ [6, 7, 1, 22, 23, 24, 25, 26] (by decide +kernel) (by decide +kernel)
set_option maxRecDepth 20000 in
theorem gX0_takesNumber_X0_isWhole : GoodIn wsX0_takesNumber (wsV RX0 46 RX0 yX0_isWhole wsX0_isWhole) := goodIn_app (goodIn_of _ (by decide +kernel)) ggX0_takesNumber_X0_isWhole
set_option maxRecDepth 20000 in
theorem ggX0_takesNumber_X0_begin : GoodIn wsX0_takesNumber wsX0_begin := goodIn_r _ [11, 7, 12, 13, 14, 1, 22, 23, 24, 25, 26] (by decide +kernel) (by decide +kernel)
set_option maxRecDepth 20000 in
theorem gX0_takesNumber_X0_begin : GoodIn wsX0_takesNumber (wsV RX0 50 RX0 yX0_begin wsX0_begin) := goodIn_app (goodIn_of _ (by decide +kernel)) ggX0_takesNumber_X0_begin
set_option maxRecDepth 20000 in
theorem ggX0_takesNumber_X0_isDigitBelow : GoodIn wsX0_takesNumber wsX0_isDigitBelow := goodIn_r _ [17] (by decide +kernel) (by decide +kernel)
set_option maxRecDepth 20000 in
theorem gX0_takesNumber_X0_isDigitBelow : GoodIn wsX0_takesNumber (va_wsS RX0 38 yX0_isDigitBelow wsX0_isDigitBelow) := goodIn_app (goodIn_of _ (by decide +kernel)) ggX0_takesNumber_X0_isDigitBelow
set_option maxRecDepth 20000 in
theorem ggX0_takesNumber_X0_mostNumber : GoodIn wsX0_takesNumber wsX0_mostNumber := goodIn_r _ [21, 12, 22, 23, 24, 25, 26] (by decide +kernel) (by decide +kernel)
set_option maxRecDepth 20000 in
theorem gX0_takesNumber_X0_mostNumber : GoodIn wsX0_takesNumber (wsV RX0 53 RX0 yX0_mostNumber wsX0_mostNumber) := goodIn_app (goodIn_of _ (by decide +kernel)) ggX0_takesNumber_X0_mostNumber
theorem dX0_takesNumber_0 : decode cX0_takesNumber 0 = .ok (.iload_n 1, 1) := by decide +kernel
theorem dX0_takesNumber_1 : decode cX0_takesNumber 1 = .ok (.bipush 59, 2) := by decide +kernel
theorem dX0_takesNumber_3 : decode cX0_takesNumber 3 = .ok (.if_icmp .ne 14, 3) := by decide +kernel
theorem dX0_takesNumber_6 : decode cX0_takesNumber 6 = .ok (.aload_n 0, 1) := by decide +kernel
theorem dX0_takesNumber_7 : decode cX0_takesNumber 7 = .ok (.invokevirtual 46, 3) := by decide +kernel
theorem dX0_takesNumber_10 : decode cX0_takesNumber 10 = .ok (.istore_n 2, 1) := by decide +kernel
theorem dX0_takesNumber_11 : decode cX0_takesNumber 11 = .ok (.aload_n 0, 1) := by decide +kernel
theorem dX0_takesNumber_12 : decode cX0_takesNumber 12 = .ok (.invokevirtual 50, 3) := by decide +kernel
theorem dX0_takesNumber_15 : decode cX0_takesNumber 15 = .ok (.iload_n 2, 1) := by decide +kernel
theorem dX0_takesNumber_16 : decode cX0_takesNumber 16 = .ok (.ireturn, 1) := by decide +kernel
theorem dX0_takesNumber_17 : decode cX0_takesNumber 17 = .ok (.iload_n 1, 1) := by decide +kernel
theorem dX0_takesNumber_18 : decode cX0_takesNumber 18 = .ok (.bipush 10, 2) := by decide +kernel
theorem dX0_takesNumber_20 : decode cX0_takesNumber 20 = .ok (.invokestatic 38, 3) := by decide +kernel
theorem dX0_takesNumber_23 : decode cX0_takesNumber 23 = .ok (.ifCond .eq 42, 3) := by decide +kernel
theorem dX0_takesNumber_26 : decode cX0_takesNumber 26 = .ok (.bipush 10, 2) := by decide +kernel
theorem dX0_takesNumber_28 : decode cX0_takesNumber 28 = .ok (.aload_n 0, 1) := by decide +kernel
theorem dX0_takesNumber_29 : decode cX0_takesNumber 29 = .ok (.getfield 24, 3) := by decide +kernel
theorem dX0_takesNumber_32 : decode cX0_takesNumber 32 = .ok (.imul, 1) := by decide +kernel
theorem dX0_takesNumber_33 : decode cX0_takesNumber 33 = .ok (.iload_n 1, 1) := by decide +kernel
theorem dX0_takesNumber_34 : decode cX0_takesNumber 34 = .ok (.iadd, 1) := by decide +kernel
theorem dX0_takesNumber_35 : decode cX0_takesNumber 35 = .ok (.bipush 48, 2) := by decide +kernel
theorem dX0_takesNumber_37 : decode cX0_takesNumber 37 = .ok (.isub, 1) := by decide +kernel
theorem dX0_takesNumber_38 : decode cX0_takesNumber 38 = .ok (.iconst 1, 1) := by decide +kernel
theorem dX0_takesNumber_39 : decode cX0_takesNumber 39 = .ok (.if_icmp .lt 26, 3) := by decide +kernel
theorem dX0_takesNumber_42 : decode cX0_takesNumber 42 = .ok (.bipush 10, 2) := by decide +kernel
theorem dX0_takesNumber_44 : decode cX0_takesNumber 44 = .ok (.aload_n 0, 1) := by decide +kernel
theorem dX0_takesNumber_45 : decode cX0_takesNumber 45 = .ok (.getfield 24, 3) := by decide +kernel
theorem dX0_takesNumber_48 : decode cX0_takesNumber 48 = .ok (.imul, 1) := by decide +kernel
theorem dX0_takesNumber_49 : decode cX0_takesNumber 49 = .ok (.iload_n 1, 1) := by decide +kernel
theorem dX0_takesNumber_50 : decode cX0_takesNumber 50 = .ok (.iadd, 1) := by decide +kernel
theorem dX0_takesNumber_51 : decode cX0_takesNumber 51 = .ok (.bipush 48, 2) := by decide +kernel
theorem dX0_takesNumber_53 : decode cX0_takesNumber 53 = .ok (.isub, 1) := by decide +kernel
theorem dX0_takesNumber_54 : decode cX0_takesNumber 54 = .ok (.aload_n 0, 1) := by decide +kernel
theorem dX0_takesNumber_55 : decode cX0_takesNumber 55 = .ok (.invokevirtual 53, 3) := by decide +kernel
theorem dX0_takesNumber_58 : decode cX0_takesNumber 58 = .ok (.if_icmp .gt 7, 3) := by decide +kernel
theorem dX0_takesNumber_61 : decode cX0_takesNumber 61 = .ok (.iconst 1, 1) := by decide +kernel
theorem dX0_takesNumber_62 : decode cX0_takesNumber 62 = .ok (.goto 4, 3) := by decide +kernel
theorem dX0_takesNumber_65 : decode cX0_takesNumber 65 = .ok (.iconst 0, 1) := by decide +kernel
theorem dX0_takesNumber_66 : decode cX0_takesNumber 66 = .ok (.istore_n 2, 1) := by decide +kernel
theorem dX0_takesNumber_67 : decode cX0_takesNumber 67 = .ok (.iload_n 2, 1) := by decide +kernel
theorem dX0_takesNumber_68 : decode cX0_takesNumber 68 = .ok (.ifCond .eq 19, 3) := by decide +kernel
theorem dX0_takesNumber_71 : decode cX0_takesNumber 71 = .ok (.aload_n 0, 1) := by decide +kernel
theorem dX0_takesNumber_72 : decode cX0_takesNumber 72 = .ok (.bipush 10, 2) := by decide +kernel
theorem dX0_takesNumber_74 : decode cX0_takesNumber 74 = .ok (.aload_n 0, 1) := by decide +kernel
theorem dX0_takesNumber_75 : decode cX0_takesNumber 75 = .ok (.getfield 24, 3) := by decide +kernel
theorem dX0_takesNumber_78 : decode cX0_takesNumber 78 = .ok (.imul, 1) := by decide +kernel
theorem dX0_takesNumber_79 : decode cX0_takesNumber 79 = .ok (.iload_n 1, 1) := by decide +kernel
theorem dX0_takesNumber_80 : decode cX0_takesNumber 80 = .ok (.iadd, 1) := by decide +kernel
theorem dX0_takesNumber_81 : decode cX0_takesNumber 81 = .ok (.bipush 48, 2) := by decide +kernel
theorem dX0_takesNumber_83 : decode cX0_takesNumber 83 = .ok (.isub, 1) := by decide +kernel
theorem dX0_takesNumber_84 : decode cX0_takesNumber 84 = .ok (.putfield 24, 3) := by decide +kernel
theorem dX0_takesNumber_87 : decode cX0_takesNumber 87 = .ok (.iload_n 2, 1) := by decide +kernel
theorem dX0_takesNumber_88 : decode cX0_takesNumber 88 = .ok (.ireturn, 1) := by decide +kernel
theorem dX0_secondBound_0 : decode cX0_secondBound 0 = .ok (.aload_n 0, 1) := by decide +kernel
theorem dX0_secondBound_1 : decode cX0_secondBound 1 = .ok (.getfield 15, 3) := by decide +kernel
theorem dX0_secondBound_4 : decode cX0_secondBound 4 = .ok (.bipush 100, 2) := by decide +kernel
theorem dX0_secondBound_6 : decode cX0_secondBound 6 = .ok (.if_icmp .ne 6, 3) := by decide +kernel
theorem dX0_secondBound_9 : decode cX0_secondBound 9 = .ok (.bipush 6, 2) := by decide +kernel
theorem dX0_secondBound_11 : decode cX0_secondBound 11 = .ok (.ireturn, 1) := by decide +kernel
theorem dX0_secondBound_12 : decode cX0_secondBound 12 = .ok (.aload_n 0, 1) := by decide +kernel
theorem dX0_secondBound_13 : decode cX0_secondBound 13 = .ok (.getfield 15, 3) := by decide +kernel
theorem dX0_secondBound_16 : decode cX0_secondBound 16 = .ok (.bipush 99, 2) := by decide +kernel
theorem dX0_secondBound_18 : decode cX0_secondBound 18 = .ok (.if_icmp .ne 7, 3) := by decide +kernel
theorem dX0_secondBound_21 : decode cX0_secondBound 21 = .ok (.iconst 3, 1) := by decide +kernel
theorem dX0_secondBound_22 : decode cX0_secondBound 22 = .ok (.goto 5, 3) := by decide +kernel
theorem dX0_secondBound_25 : decode cX0_secondBound 25 = .ok (.bipush 8, 2) := by decide +kernel
theorem dX0_secondBound_27 : decode cX0_secondBound 27 = .ok (.ireturn, 1) := by decide +kernel
theorem dX0_mostNumber_0 : decode cX0_mostNumber 0 = .ok (.aload_n 0, 1) := by decide +kernel
theorem dX0_mostNumber_1 : decode cX0_mostNumber 1 = .ok (.getfield 15, 3) := by decide +kernel
theorem dX0_mostNumber_4 : decode cX0_mostNumber 4 = .ok (.bipush 100, 2) := by decide +kernel
theorem dX0_mostNumber_6 : decode cX0_mostNumber 6 = .ok (.if_icmp .eq 12, 3) := by decide +kernel
theorem dX0_mostNumber_9 : decode cX0_mostNumber 9 = .ok (.aload_n 0, 1) := by decide +kernel
theorem dX0_mostNumber_10 : decode cX0_mostNumber 10 = .ok (.getfield 15, 3) := by decide +kernel
theorem dX0_mostNumber_13 : decode cX0_mostNumber 13 = .ok (.bipush 99, 2) := by decide +kernel
theorem dX0_mostNumber_15 : decode cX0_mostNumber 15 = .ok (.if_icmp .ne 8, 3) := by decide +kernel
theorem dX0_mostNumber_18 : decode cX0_mostNumber 18 = .ok (.bipush 50, 2) := by decide +kernel
theorem dX0_mostNumber_20 : decode cX0_mostNumber 20 = .ok (.goto 6, 3) := by decide +kernel
theorem dX0_mostNumber_23 : decode cX0_mostNumber 23 = .ok (.sipush 500, 3) := by decide +kernel
theorem dX0_mostNumber_26 : decode cX0_mostNumber 26 = .ok (.ireturn, 1) := by decide +kernel
theorem dX0_isDigitBelow_0 : decode cX0_isDigitBelow 0 = .ok (.iload_n 0, 1) := by decide +kernel
theorem dX0_isDigitBelow_1 : decode cX0_isDigitBelow 1 = .ok (.bipush 48, 2) := by decide +kernel
theorem dX0_isDigitBelow_3 : decode cX0_isDigitBelow 3 = .ok (.if_icmp .lt 15, 3) := by decide +kernel
theorem dX0_isDigitBelow_6 : decode cX0_isDigitBelow 6 = .ok (.iload_n 0, 1) := by decide +kernel
theorem dX0_isDigitBelow_7 : decode cX0_isDigitBelow 7 = .ok (.bipush 48, 2) := by decide +kernel
theorem dX0_isDigitBelow_9 : decode cX0_isDigitBelow 9 = .ok (.iload_n 1, 1) := by decide +kernel
theorem dX0_isDigitBelow_10 : decode cX0_isDigitBelow 10 = .ok (.iadd, 1) := by decide +kernel
theorem dX0_isDigitBelow_11 : decode cX0_isDigitBelow 11 = .ok (.if_icmp .ge 7, 3) := by decide +kernel
theorem dX0_isDigitBelow_14 : decode cX0_isDigitBelow 14 = .ok (.iconst 1, 1) := by decide +kernel
theorem dX0_isDigitBelow_15 : decode cX0_isDigitBelow 15 = .ok (.goto 4, 3) := by decide +kernel
theorem dX0_isDigitBelow_18 : decode cX0_isDigitBelow 18 = .ok (.iconst 0, 1) := by decide +kernel
theorem dX0_isDigitBelow_19 : decode cX0_isDigitBelow 19 = .ok (.ireturn, 1) := by decide +kernel
set_option maxRecDepth 20000 in
theorem ggX1_init_X2_init : GoodIn wsX1_init wsX2_init := goodIn_r _ [9, 10, 2, 3, 11, 12, 13, 14, 15, 16, 17, 18, 7, 19, 20, 21, 22, 23, 27] (by decide +kernel) (by decide +kernel)
set_option maxRecDepth 20000 in
theorem gX1_init_X2_init_n15 : GoodIn wsX1_init (wsX2_init) := ggX1_init_X2_init
theorem dX1_init_0 : decode cX1_init 0 = .ok (.aload_n 0, 1) := by decide +kernel
theorem dX1_init_1 : decode cX1_init 1 = .ok (.invokespecial 1, 3) := by decide +kernel
theorem dX1_init_4 : decode cX1_init 4 = .ok (.aload_n 0, 1) := by decide +kernel
theorem dX1_init_5 : decode cX1_init 5 = .ok (.bipush 6, 2) := by decide +kernel
theorem dX1_init_7 : decode cX1_init 7 = .ok (.anewarray 9, 3) := by decide +kernel
theorem dX1_init_10 : decode cX1_init 10 = .ok (.putfield 11, 3) := by decide +kernel
theorem dX1_init_13 : decode cX1_init 13 = .ok (.iconst 0, 1) := by decide +kernel
theorem dX1_init_14 : decode cX1_init 14 = .ok (.istore_n 1, 1) := by decide +kernel
theorem dX1_init_15 : decode cX1_init 15 = .ok (.iload_n 1, 1) := by decide +kernel
theorem dX1_init_16 : decode cX1_init 16 = .ok (.aload_n 0, 1) := by decide +kernel
theorem dX1_init_17 : decode cX1_init 17 = .ok (.getfield 11, 3) := by decide +kernel
theorem dX1_init_20 : decode cX1_init 20 = .ok (.arraylength, 1) := by decide +kernel
theorem dX1_init_21 : decode cX1_init 21 = .ok (.if_icmp .ge 22, 3) := by decide +kernel
theorem dX1_init_24 : decode cX1_init 24 = .ok (.aload_n 0, 1) := by decide +kernel
theorem dX1_init_25 : decode cX1_init 25 = .ok (.getfield 11, 3) := by decide +kernel
theorem dX1_init_28 : decode cX1_init 28 = .ok (.iload_n 1, 1) := by decide +kernel
theorem dX1_init_29 : decode cX1_init 29 = .ok (.new 9, 3) := by decide +kernel
theorem dX1_init_32 : decode cX1_init 32 = .ok (.dup, 1) := by decide +kernel
theorem dX1_init_33 : decode cX1_init 33 = .ok (.invokespecial 15, 3) := by decide +kernel
theorem dX1_init_36 : decode cX1_init 36 = .ok (.aastore, 1) := by decide +kernel
theorem dX1_init_37 : decode cX1_init 37 = .ok (.iinc 1 1, 3) := by decide +kernel
theorem dX1_init_40 : decode cX1_init 40 = .ok (.goto (-25), 3) := by decide +kernel
theorem dX1_init_43 : decode cX1_init 43 = .ok (.return_, 1) := by decide +kernel
theorem dX1_kept_0 : decode cX1_kept 0 = .ok (.aload_n 0, 1) := by decide +kernel
theorem dX1_kept_1 : decode cX1_kept 1 = .ok (.getfield 16, 3) := by decide +kernel
theorem dX1_kept_4 : decode cX1_kept 4 = .ok (.ireturn, 1) := by decide +kernel
theorem dX1_latestState_0 : decode cX1_latestState 0 = .ok (.aload_n 0, 1) := by decide +kernel
theorem dX1_latestState_1 : decode cX1_latestState 1 = .ok (.getfield 20, 3) := by decide +kernel
theorem dX1_latestState_4 : decode cX1_latestState 4 = .ok (.ifCond .lt 27, 3) := by decide +kernel
theorem dX1_latestState_7 : decode cX1_latestState 7 = .ok (.aload_n 0, 1) := by decide +kernel
theorem dX1_latestState_8 : decode cX1_latestState 8 = .ok (.getfield 20, 3) := by decide +kernel
theorem dX1_latestState_11 : decode cX1_latestState 11 = .ok (.aload_n 0, 1) := by decide +kernel
theorem dX1_latestState_12 : decode cX1_latestState 12 = .ok (.getfield 11, 3) := by decide +kernel
theorem dX1_latestState_15 : decode cX1_latestState 15 = .ok (.arraylength, 1) := by decide +kernel
theorem dX1_latestState_16 : decode cX1_latestState 16 = .ok (.if_icmp .ge 15, 3) := by decide +kernel
theorem dX1_latestState_19 : decode cX1_latestState 19 = .ok (.aload_n 0, 1) := by decide +kernel
theorem dX1_latestState_20 : decode cX1_latestState 20 = .ok (.getfield 11, 3) := by decide +kernel
theorem dX1_latestState_23 : decode cX1_latestState 23 = .ok (.aload_n 0, 1) := by decide +kernel
theorem dX1_latestState_24 : decode cX1_latestState 24 = .ok (.getfield 20, 3) := by decide +kernel
theorem dX1_latestState_27 : decode cX1_latestState 27 = .ok (.aaload, 1) := by decide +kernel
theorem dX1_latestState_28 : decode cX1_latestState 28 = .ok (.goto 4, 3) := by decide +kernel
theorem dX1_latestState_31 : decode cX1_latestState 31 = .ok (.aconst_null, 1) := by decide +kernel
theorem dX1_latestState_32 : decode cX1_latestState 32 = .ok (.areturn, 1) := by decide +kernel
set_option maxRecDepth 20000 in
theorem ggX1_keep_X1_latestState : GoodIn wsX1_keep wsX1_latestState := goodIn_r _ [7, 1, 8, 18, 19, 20] (by decide +kernel) (by decide +kernel)
set_option maxRecDepth 20000 in
theorem gX1_keep_X1_latestState : GoodIn wsX1_keep (wsV RX1 23 RX1 yX1_latestState wsX1_latestState) := goodIn_app (goodIn_of _ (by decide +kernel)) ggX1_keep_X1_latestState
set_option maxRecDepth 20000 in
theorem ggX1_keep_X2_copyFrom : GoodIn wsX1_keep wsX2_copyFrom := goodIn_r _ [12, 13, 14, 15, 16, 17, 21] (by decide +kernel) (by decide +kernel)
set_option maxRecDepth 20000 in
theorem gX1_keep_X2_copyFrom_n27 : GoodIn wsX1_keep (wsX2_copyFrom) := ggX1_keep_X2_copyFrom
theorem dX1_keep_0 : decode cX1_keep 0 = .ok (.aload_n 0, 1) := by decide +kernel
theorem dX1_keep_1 : decode cX1_keep 1 = .ok (.aload_n 0, 1) := by decide +kernel
theorem dX1_keep_2 : decode cX1_keep 2 = .ok (.getfield 20, 3) := by decide +kernel
theorem dX1_keep_5 : decode cX1_keep 5 = .ok (.iconst 1, 1) := by decide +kernel
theorem dX1_keep_6 : decode cX1_keep 6 = .ok (.iadd, 1) := by decide +kernel
theorem dX1_keep_7 : decode cX1_keep 7 = .ok (.bipush 6, 2) := by decide +kernel
theorem dX1_keep_9 : decode cX1_keep 9 = .ok (.if_icmp .ge 12, 3) := by decide +kernel
theorem dX1_keep_12 : decode cX1_keep 12 = .ok (.aload_n 0, 1) := by decide +kernel
theorem dX1_keep_13 : decode cX1_keep 13 = .ok (.getfield 20, 3) := by decide +kernel
theorem dX1_keep_16 : decode cX1_keep 16 = .ok (.iconst 1, 1) := by decide +kernel
theorem dX1_keep_17 : decode cX1_keep 17 = .ok (.iadd, 1) := by decide +kernel
theorem dX1_keep_18 : decode cX1_keep 18 = .ok (.goto 4, 3) := by decide +kernel
theorem dX1_keep_21 : decode cX1_keep 21 = .ok (.iconst 0, 1) := by decide +kernel
theorem dX1_keep_22 : decode cX1_keep 22 = .ok (.putfield 20, 3) := by decide +kernel
theorem dX1_keep_25 : decode cX1_keep 25 = .ok (.aload_n 0, 1) := by decide +kernel
theorem dX1_keep_26 : decode cX1_keep 26 = .ok (.aload_n 0, 1) := by decide +kernel
theorem dX1_keep_27 : decode cX1_keep 27 = .ok (.getfield 16, 3) := by decide +kernel
theorem dX1_keep_30 : decode cX1_keep 30 = .ok (.bipush 6, 2) := by decide +kernel
theorem dX1_keep_32 : decode cX1_keep 32 = .ok (.if_icmp .ge 12, 3) := by decide +kernel
theorem dX1_keep_35 : decode cX1_keep 35 = .ok (.aload_n 0, 1) := by decide +kernel
theorem dX1_keep_36 : decode cX1_keep 36 = .ok (.getfield 16, 3) := by decide +kernel
theorem dX1_keep_39 : decode cX1_keep 39 = .ok (.iconst 1, 1) := by decide +kernel
theorem dX1_keep_40 : decode cX1_keep 40 = .ok (.iadd, 1) := by decide +kernel
theorem dX1_keep_41 : decode cX1_keep 41 = .ok (.goto 5, 3) := by decide +kernel
theorem dX1_keep_44 : decode cX1_keep 44 = .ok (.bipush 6, 2) := by decide +kernel
theorem dX1_keep_46 : decode cX1_keep 46 = .ok (.putfield 16, 3) := by decide +kernel
theorem dX1_keep_49 : decode cX1_keep 49 = .ok (.aload_n 0, 1) := by decide +kernel
theorem dX1_keep_50 : decode cX1_keep 50 = .ok (.invokevirtual 23, 3) := by decide +kernel
theorem dX1_keep_53 : decode cX1_keep 53 = .ok (.astore_n 2, 1) := by decide +kernel
theorem dX1_keep_54 : decode cX1_keep 54 = .ok (.aload_n 2, 1) := by decide +kernel
theorem dX1_keep_55 : decode cX1_keep 55 = .ok (.ifnull 8, 3) := by decide +kernel
theorem dX1_keep_58 : decode cX1_keep 58 = .ok (.aload_n 2, 1) := by decide +kernel
theorem dX1_keep_59 : decode cX1_keep 59 = .ok (.aload_n 1, 1) := by decide +kernel
theorem dX1_keep_60 : decode cX1_keep 60 = .ok (.invokevirtual 27, 3) := by decide +kernel
theorem dX1_keep_63 : decode cX1_keep 63 = .ok (.return_, 1) := by decide +kernel
set_option maxRecDepth 20000 in
theorem ggX1_giveBack_X1_latestState : GoodIn wsX1_giveBack wsX1_latestState := goodIn_r _ [7, 2, 8, 18, 19, 20] (by decide +kernel) (by decide +kernel)
set_option maxRecDepth 20000 in
theorem gX1_giveBack_X1_latestState : GoodIn wsX1_giveBack (wsV RX1 23 RX1 yX1_latestState wsX1_latestState) := goodIn_app (goodIn_of _ (by decide +kernel)) ggX1_giveBack_X1_latestState
set_option maxRecDepth 20000 in
theorem ggX1_giveBack_X2_copyFrom : GoodIn wsX1_giveBack wsX2_copyFrom := goodIn_r _ [12, 13, 14, 15, 16, 17, 21] (by decide +kernel) (by decide +kernel)
set_option maxRecDepth 20000 in
theorem gX1_giveBack_X2_copyFrom_n27 : GoodIn wsX1_giveBack (wsX2_copyFrom) := ggX1_giveBack_X2_copyFrom
theorem dX1_giveBack_0 : decode cX1_giveBack 0 = .ok (.aload_n 1, 1) := by decide +kernel
theorem dX1_giveBack_1 : decode cX1_giveBack 1 = .ok (.ifnull 49, 3) := by decide +kernel
theorem dX1_giveBack_4 : decode cX1_giveBack 4 = .ok (.aload_n 0, 1) := by decide +kernel
theorem dX1_giveBack_5 : decode cX1_giveBack 5 = .ok (.getfield 16, 3) := by decide +kernel
theorem dX1_giveBack_8 : decode cX1_giveBack 8 = .ok (.ifCond .le 42, 3) := by decide +kernel
theorem dX1_giveBack_11 : decode cX1_giveBack 11 = .ok (.aload_n 1, 1) := by decide +kernel
theorem dX1_giveBack_12 : decode cX1_giveBack 12 = .ok (.aload_n 0, 1) := by decide +kernel
theorem dX1_giveBack_13 : decode cX1_giveBack 13 = .ok (.invokevirtual 23, 3) := by decide +kernel
theorem dX1_giveBack_16 : decode cX1_giveBack 16 = .ok (.invokevirtual 27, 3) := by decide +kernel
theorem dX1_giveBack_19 : decode cX1_giveBack 19 = .ok (.aload_n 0, 1) := by decide +kernel
