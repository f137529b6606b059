def mw : List (Nat × Nat × Nat × Nat × Bool) := [(157, 156, 0, 87, false), (531, 529, 530, 87, false), (514, 512, 513, 87, false), (267, 266, 0, 90, false), (849, 848, 26, 90, false), (840, 838, 839, 90, false), (858, 856, 857, 90, false), (853, 852, 27, 90, false), (845, 844, 25, 90, false), (883, 882, 33, 90, false), (887, 886, 34, 90, false), (891, 890, 35, 90, false), (866, 865, 29, 90, false), (862, 861, 28, 90, false), (874, 873, 31, 90, false), (878, 877, 32, 90, false), (870, 869, 30, 90, false), (164, 163, 0, 88, false), (460, 458, 459, 88, false), (497, 495, 496, 88, false), (908, 906, 907, 88, false), (667, 665, 666, 88, false), (663, 661, 662, 88, false), (609, 607, 608, 88, false), (615, 614, 11, 88, false), (621, 620, 12, 88, false), (573, 571, 572, 88, false), (580, 578, 579, 88, false), (762, 760, 761, 88, false), (768, 766, 767, 88, false), (726, 725, 18, 88, false), (734, 733, 19, 88, false), (722, 720, 721, 88, false), (730, 728, 729, 88, false), (750, 748, 749, 88, false), (754, 752, 753, 88, false), (742, 740, 741, 88, false), (781, 779, 780, 88, false), (785, 783, 784, 88, false), (282, 281, 0, 91, false), (684, 682, 683, 91, false), (689, 687, 688, 91, false), (693, 692, 15, 91, false), (706, 704, 705, 91, false), (710, 709, 16, 91, false), (714, 713, 17, 91, false), (171, 170, 0, 89, false), (464, 462, 463, 89, false), (501, 499, 500, 89, false), (554, 552, 553, 89, false), (527, 525, 526, 89, false), (772, 770, 771, 89, false), (538, 536, 537, 89, false), (550, 548, 549, 89, false), (546, 544, 545, 89, false), (595, 593, 594, 89, false), (655, 653, 654, 89, false), (625, 623, 624, 89, false), (629, 628, 13, 89, false), (561, 560, 9, 89, false), (108, 107, 0, 85, false), (419, 417, 418, 85, false), (403, 401, 402, 85, false), (439, 437, 438, 85, false), (423, 421, 422, 85, false), (415, 413, 414, 85, false), (679, 677, 678, 85, false), (904, 902, 903, 85, false), (317, 316, 0, 92, false), (793, 791, 792, 92, false), (798, 797, 20, 92, false), (802, 801, 21, 92, false), (807, 806, 22, 92, false), (811, 810, 23, 92, false), (815, 814, 24, 92, false), (129, 128, 0, 86, false), (448, 446, 447, 86, false), (456, 454, 455, 86, false), (468, 467, 2, 86, false), (489, 488, 7, 86, false), (492, 491, 0, 86, true), (476, 475, 4, 86, false), (472, 471, 3, 86, false), (484, 483, 6, 86, false), (480, 479, 5, 86, false), (100, 99, 0, 84, false), (387, 385, 386, 84, false), (411, 409, 410, 84, false), (427, 425, 426, 84, false), (435, 433, 434, 84, false), (443, 441, 442, 84, false), (452, 450, 451, 84, false), (505, 503, 504, 84, false), (509, 507, 508, 84, false), (519, 517, 518, 84, false), (542, 540, 541, 84, false), (565, 563, 564, 84, false), (586, 584, 585, 84, false), (591, 589, 590, 84, false), (600, 598, 599, 84, false), (604, 602, 603, 84, false), (633, 631, 632, 84, false), (640, 638, 639, 84, false), (644, 642, 643, 84, false), (651, 649, 650, 84, false), (659, 657, 658, 84, false), (671, 669, 670, 84, false), (702, 700, 701, 84, false), (718, 716, 717, 84, false), (738, 736, 737, 84, false), (758, 756, 757, 84, false), (777, 775, 776, 84, false), (789, 787, 788, 84, false), (819, 817, 818, 84, false), (823, 821, 822, 84, false), (827, 825, 826, 84, false), (831, 829, 830, 84, false), (836, 834, 835, 84, false), (896, 894, 895, 84, false), (900, 898, 899, 84, false), (912, 910, 911, 84, false), (393, 392, 0, 84, true), (390, 389, 0, 84, true), (523, 522, 8, 84, false), (569, 568, 10, 84, false), (647, 646, 0, 84, true), (675, 674, 14, 84, false), (636, 635, 0, 84, true), (398, 397, 0, 84, false), (407, 406, 1, 84, false), (917, 916, 0, 93, false), (991, 990, 0, 93, true), (1227, 1226, 0, 93, true), (997, 996, 36, 93, false), (1002, 1001, 37, 93, false), (987, 986, 0, 93, true), (984, 982, 983, 93, false), (1006, 1004, 1005, 93, false), (1014, 1013, 38, 93, false), (1010, 1008, 1009, 93, false), (1018, 1016, 1017, 93, false), (1022, 1020, 1021, 93, false), (1047, 1046, 0, 93, true), (1044, 1043, 42, 93, false), (1040, 1039, 41, 93, false), (1055, 1054, 44, 93, false), (1036, 1035, 40, 93, false), (1051, 1050, 43, 93, false), (1032, 1031, 39, 93, false), (1028, 1026, 1027, 93, false), (1060, 1058, 1059, 93, false), (1073, 1072, 45, 93, false), (1105, 1104, 51, 93, false), (1081, 1080, 0, 93, true), (1078, 1077, 46, 93, false), (1089, 1088, 48, 93, false), (1109, 1108, 52, 93, false), (1101, 1100, 50, 93, false), (1097, 1096, 49, 93, false), (1156, 1155, 57, 93, false), (1149, 1148, 56, 93, false), (1085, 1084, 47, 93, false), (1064, 1062, 1063, 93, false), (1069, 1067, 1068, 93, false), (1093, 1091, 1092, 93, false), (1117, 1116, 53, 93, false), (1121, 1120, 54, 93, false), (1125, 1124, 55, 93, false), (1113, 1111, 1112, 93, false), (1129, 1127, 1128, 93, false), (1133, 1131, 1132, 93, false), (1137, 1135, 1136, 93, false), (1144, 1143, 0, 93, true), (1141, 1139, 1140, 93, false), (1160, 1158, 1159, 93, false), (1164, 1162, 1163, 93, false), (1174, 1173, 58, 93, false), (1168, 1166, 1167, 93, false), (1178, 1176, 1177, 93, false), (1186, 1185, 59, 93, false), (1182, 1180, 1181, 93, false), (1203, 1202, 62, 93, false), (1199, 1198, 61, 93, false), (1195, 1194, 60, 93, false), (1211, 1210, 64, 93, false), (1207, 1206, 63, 93, false), (1190, 1188, 1189, 93, false), (1220, 1219, 0, 93, true), (1224, 1223, 65, 93, false), (1215, 1213, 1214, 93, false), (1240, 1239, 67, 93, false), (1248, 1247, 69, 93, false), (1236, 1235, 66, 93, false), (1244, 1243, 68, 93, false), (1231, 1229, 1230, 93, false), (1252, 1250, 1251, 93, false), (1265, 1264, 71, 93, false), (1261, 1260, 70, 93, false), (1256, 1254, 1255, 93, false), (1273, 1272, 72, 93, false), (1269, 1267, 1268, 93, false), (1278, 1276, 1277, 93, false), (1283, 1281, 1282, 93, false), (1287, 1285, 1286, 93, false), (1291, 1289, 1290, 93, false), (1299, 1298, 0, 93, true), (1295, 1293, 1294, 93, false), (1315, 1314, 75, 93, false), (1319, 1318, 76, 93, false), (1331, 1330, 79, 93, false), (1327, 1326, 78, 93, false), (1323, 1322, 77, 93, false), (1311, 1310, 74, 93, false), (1339, 1338, 81, 93, false), (1335, 1334, 80, 93, false), (1307, 1306, 73, 93, false), (1343, 1342, 82, 93, false), (1303, 1301, 1302, 93, false), (1347, 1345, 1346, 93, false), (1351, 1349, 1350, 93, false), (1355, 1353, 1354, 93, false)]
def mW (y : Nat) : Nat × Nat × Nat × Nat × Bool := mw.getD y (0, 0, 0, 0, false)
def mSt (y : Nat) : Bool := (mW y).2.2.2.2
def mOk (y : Nat) : Bool := wd (mW y).1 (.code (mI y).1 (mI y).2.1 (mI y).2.2.1 (rtF (mI y).2.2.2.1)) &&
  (if mSt y = true then wd (mW y).2.1 (.static (mI y).1) else wd (mW y).2.1 (.instanceMethod (mI y).1)) &&
  (if mSt y = true ∨ (mI y).1.name = "<init>" then true else wd (mW y).2.2.1 (.selects (mI y).1.cls (mI y).1 (mI y).1)) &&
  wd (mW y).2.2.2.1 (.initialized (mI y).1.cls) && plainName (mI y).1.cls && decide ((mI y).1.cls ≠ "java/lang/invoke/MethodHandle") && decide ((mI y).1.cls ≠ "java/lang/invoke/VarHandle") &&
  (match vwCl[(mI y).2.2.2.2]? with
    | some (C, _, _) => decide (C = (mI y).1.cls)
    | none => false) && decide ((mI y).2.2.1 ≤ 20) && decide ((mI y).2.2.2.1 ≤ 2)
set_option maxRecDepth 100000 in
theorem mO0 : mOk 0 = true := by decide +kernel
set_option maxRecDepth 100000 in
theorem mO1 : mOk 1 = true := by decide +kernel
set_option maxRecDepth 100000 in
theorem mO2 : mOk 2 = true := by decide +kernel
set_option maxRecDepth 100000 in
theorem mO3 : mOk 3 = true := by decide +kernel
set_option maxRecDepth 100000 in
theorem mO4 : mOk 4 = true := by decide +kernel
set_option maxRecDepth 100000 in
theorem mO5 : mOk 5 = true := by decide +kernel
set_option maxRecDepth 100000 in
theorem mO6 : mOk 6 = true := by decide +kernel
set_option maxRecDepth 100000 in
theorem mO7 : mOk 7 = true := by decide +kernel
set_option maxRecDepth 100000 in
theorem mO8 : mOk 8 = true := by decide +kernel
set_option maxRecDepth 100000 in
theorem mO9 : mOk 9 = true := by decide +kernel
set_option maxRecDepth 100000 in
theorem mO10 : mOk 10 = true := by decide +kernel
set_option maxRecDepth 100000 in
theorem mO11 : mOk 11 = true := by decide +kernel
set_option maxRecDepth 100000 in
theorem mO12 : mOk 12 = true := by decide +kernel
set_option maxRecDepth 100000 in
theorem mO13 : mOk 13 = true := by decide +kernel
set_option maxRecDepth 100000 in
theorem mO14 : mOk 14 = true := by decide +kernel
set_option maxRecDepth 100000 in
theorem mO15 : mOk 15 = true := by decide +kernel
set_option maxRecDepth 100000 in
theorem mO16 : mOk 16 = true := by decide +kernel
set_option maxRecDepth 100000 in
theorem mO17 : mOk 17 = true := by decide +kernel
set_option maxRecDepth 100000 in
theorem mO18 : mOk 18 = true := by decide +kernel
set_option maxRecDepth 100000 in
theorem mO19 : mOk 19 = true := by decide +kernel
set_option maxRecDepth 100000 in
theorem mO20 : mOk 20 = true := by decide +kernel
set_option maxRecDepth 100000 in
theorem mO21 : mOk 21 = true := by decide +kernel
set_option maxRecDepth 100000 in
theorem mO22 : mOk 22 = true := by decide +kernel
set_option maxRecDepth 100000 in
theorem mO23 : mOk 23 = true := by decide +kernel
set_option maxRecDepth 100000 in
theorem mO24 : mOk 24 = true := by decide +kernel
set_option maxRecDepth 100000 in
theorem mO25 : mOk 25 = true := by decide +kernel
set_option maxRecDepth 100000 in
theorem mO26 : mOk 26 = true := by decide +kernel
set_option maxRecDepth 100000 in
theorem mO27 : mOk 27 = true := by decide +kernel
set_option maxRecDepth 100000 in
theorem mO28 : mOk 28 = true := by decide +kernel
set_option maxRecDepth 100000 in
theorem mO29 : mOk 29 = true := by decide +kernel
set_option maxRecDepth 100000 in
theorem mO30 : mOk 30 = true := by decide +kernel
set_option maxRecDepth 100000 in
theorem mO31 : mOk 31 = true := by decide +kernel
set_option maxRecDepth 100000 in
theorem mO32 : mOk 32 = true := by decide +kernel
set_option maxRecDepth 100000 in
theorem mO33 : mOk 33 = true := by decide +kernel
set_option maxRecDepth 100000 in
theorem mO34 : mOk 34 = true := by decide +kernel
set_option maxRecDepth 100000 in
theorem mO35 : mOk 35 = true := by decide +kernel
set_option maxRecDepth 100000 in
theorem mO36 : mOk 36 = true := by decide +kernel
set_option maxRecDepth 100000 in
theorem mO37 : mOk 37 = true := by decide +kernel
set_option maxRecDepth 100000 in
theorem mO38 : mOk 38 = true := by decide +kernel
set_option maxRecDepth 100000 in
theorem mO39 : mOk 39 = true := by decide +kernel
set_option maxRecDepth 100000 in
theorem mO40 : mOk 40 = true := by decide +kernel
set_option maxRecDepth 100000 in
theorem mO41 : mOk 41 = true := by decide +kernel
set_option maxRecDepth 100000 in
theorem mO42 : mOk 42 = true := by decide +kernel
set_option maxRecDepth 100000 in
theorem mO43 : mOk 43 = true := by decide +kernel
set_option maxRecDepth 100000 in
theorem mO44 : mOk 44 = true := by decide +kernel
set_option maxRecDepth 100000 in
theorem mO45 : mOk 45 = true := by decide +kernel
set_option maxRecDepth 100000 in
theorem mO46 : mOk 46 = true := by decide +kernel
set_option maxRecDepth 100000 in
theorem mO47 : mOk 47 = true := by decide +kernel
set_option maxRecDepth 100000 in
theorem mO48 : mOk 48 = true := by decide +kernel
set_option maxRecDepth 100000 in
theorem mO49 : mOk 49 = true := by decide +kernel
set_option maxRecDepth 100000 in
theorem mO50 : mOk 50 = true := by decide +kernel
set_option maxRecDepth 100000 in
theorem mO51 : mOk 51 = true := by decide +kernel
set_option maxRecDepth 100000 in
theorem mO52 : mOk 52 = true := by decide +kernel
set_option maxRecDepth 100000 in
theorem mO53 : mOk 53 = true := by decide +kernel
set_option maxRecDepth 100000 in
theorem mO54 : mOk 54 = true := by decide +kernel
set_option maxRecDepth 100000 in
theorem mO55 : mOk 55 = true := by decide +kernel
set_option maxRecDepth 100000 in
theorem mO56 : mOk 56 = true := by decide +kernel
set_option maxRecDepth 100000 in
theorem mO57 : mOk 57 = true := by decide +kernel
set_option maxRecDepth 100000 in
theorem mO58 : mOk 58 = true := by decide +kernel
set_option maxRecDepth 100000 in
theorem mO59 : mOk 59 = true := by decide +kernel
set_option maxRecDepth 100000 in
theorem mO60 : mOk 60 = true := by decide +kernel
set_option maxRecDepth 100000 in
theorem mO61 : mOk 61 = true := by decide +kernel
set_option maxRecDepth 100000 in
theorem mO62 : mOk 62 = true := by decide +kernel
set_option maxRecDepth 100000 in
theorem mO63 : mOk 63 = true := by decide +kernel
set_option maxRecDepth 100000 in
theorem mO64 : mOk 64 = true := by decide +kernel
set_option maxRecDepth 100000 in
theorem mO65 : mOk 65 = true := by decide +kernel
set_option maxRecDepth 100000 in
theorem mO66 : mOk 66 = true := by decide +kernel
set_option maxRecDepth 100000 in
theorem mO67 : mOk 67 = true := by decide +kernel
set_option maxRecDepth 100000 in
theorem mO68 : mOk 68 = true := by decide +kernel
set_option maxRecDepth 100000 in
theorem mO69 : mOk 69 = true := by decide +kernel
set_option maxRecDepth 100000 in
theorem mO70 : mOk 70 = true := by decide +kernel
set_option maxRecDepth 100000 in
theorem mO71 : mOk 71 = true := by decide +kernel
set_option maxRecDepth 100000 in
theorem mO72 : mOk 72 = true := by decide +kernel
set_option maxRecDepth 100000 in
theorem mO73 : mOk 73 = true := by decide +kernel
set_option maxRecDepth 100000 in
theorem mO74 : mOk 74 = true := by decide +kernel
set_option maxRecDepth 100000 in
theorem mO75 : mOk 75 = true := by decide +kernel
set_option maxRecDepth 100000 in
theorem mO76 : mOk 76 = true := by decide +kernel
set_option maxRecDepth 100000 in
theorem mO77 : mOk 77 = true := by decide +kernel
set_option maxRecDepth 100000 in
theorem mO78 : mOk 78 = true := by decide +kernel
set_option maxRecDepth 100000 in
theorem mO79 : mOk 79 = true := by decide +kernel
set_option maxRecDepth 100000 in
theorem mO80 : mOk 80 = true := by decide +kernel
set_option maxRecDepth 100000 in
theorem mO81 : mOk 81 = true := by decide +kernel
set_option maxRecDepth 100000 in
theorem mO82 : mOk 82 = true := by decide +kernel
set_option maxRecDepth 100000 in
theorem mO83 : mOk 83 = true := by decide +kernel
set_option maxRecDepth 100000 in
theorem mO84 : mOk 84 = true := by decide +kernel
set_option maxRecDepth 100000 in
theorem mO85 : mOk 85 = true := by decide +kernel
set_option maxRecDepth 100000 in
theorem mO86 : mOk 86 = true := by decide +kernel
set_option maxRecDepth 100000 in
theorem mO87 : mOk 87 = true := by decide +kernel
set_option maxRecDepth 100000 in
theorem mO88 : mOk 88 = true := by decide +kernel
set_option maxRecDepth 100000 in
theorem mO89 : mOk 89 = true := by decide +kernel
set_option maxRecDepth 100000 in
theorem mO90 : mOk 90 = true := by decide +kernel
set_option maxRecDepth 100000 in
theorem mO91 : mOk 91 = true := by decide +kernel
set_option maxRecDepth 100000 in
theorem mO92 : mOk 92 = true := by decide +kernel
set_option maxRecDepth 100000 in
theorem mO93 : mOk 93 = true := by decide +kernel
set_option maxRecDepth 100000 in
theorem mO94 : mOk 94 = true := by decide +kernel
set_option maxRecDepth 100000 in
theorem mO95 : mOk 95 = true := by decide +kernel
set_option maxRecDepth 100000 in
theorem mO96 : mOk 96 = true := by decide +kernel
set_option maxRecDepth 100000 in
theorem mO97 : mOk 97 = true := by decide +kernel
set_option maxRecDepth 100000 in
theorem mO98 : mOk 98 = true := by decide +kernel
set_option maxRecDepth 100000 in
theorem mO99 : mOk 99 = true := by decide +kernel
set_option maxRecDepth 100000 in
theorem mO100 : mOk 100 = true := by decide +kernel
set_option maxRecDepth 100000 in
theorem mO101 : mOk 101 = true := by decide +kernel
set_option maxRecDepth 100000 in
theorem mO102 : mOk 102 = true := by decide +kernel
set_option maxRecDepth 100000 in
theorem mO103 : mOk 103 = true := by decide +kernel
set_option maxRecDepth 100000 in
theorem mO104 : mOk 104 = true := by decide +kernel
set_option maxRecDepth 100000 in
theorem mO105 : mOk 105 = true := by decide +kernel
set_option maxRecDepth 100000 in
theorem mO106 : mOk 106 = true := by decide +kernel
set_option maxRecDepth 100000 in
theorem mO107 : mOk 107 = true := by decide +kernel
set_option maxRecDepth 100000 in
theorem mO108 : mOk 108 = true := by decide +kernel
set_option maxRecDepth 100000 in
theorem mO109 : mOk 109 = true := by decide +kernel
set_option maxRecDepth 100000 in
theorem mO110 : mOk 110 = true := by decide +kernel
set_option maxRecDepth 100000 in
theorem mO111 : mOk 111 = true := by decide +kernel
set_option maxRecDepth 100000 in
theorem mO112 : mOk 112 = true := by decide +kernel
set_option maxRecDepth 100000 in
theorem mO113 : mOk 113 = true := by decide +kernel
set_option maxRecDepth 100000 in
theorem mO114 : mOk 114 = true := by decide +kernel
set_option maxRecDepth 100000 in
theorem mO115 : mOk 115 = true := by decide +kernel
set_option maxRecDepth 100000 in
theorem mO116 : mOk 116 = true := by decide +kernel
set_option maxRecDepth 100000 in
theorem mO117 : mOk 117 = true := by decide +kernel
set_option maxRecDepth 100000 in
theorem mO118 : mOk 118 = true := by decide +kernel
set_option maxRecDepth 100000 in
theorem mO119 : mOk 119 = true := by decide +kernel
set_option maxRecDepth 100000 in
theorem mO120 : mOk 120 = true := by decide +kernel
set_option maxRecDepth 100000 in
theorem mO121 : mOk 121 = true := by decide +kernel
set_option maxRecDepth 100000 in
theorem mO122 : mOk 122 = true := by decide +kernel
set_option maxRecDepth 100000 in
theorem mO123 : mOk 123 = true := by decide +kernel
set_option maxRecDepth 100000 in
theorem mO124 : mOk 124 = true := by decide +kernel
set_option maxRecDepth 100000 in
theorem mO125 : mOk 125 = true := by decide +kernel
set_option maxRecDepth 100000 in
theorem mO126 : mOk 126 = true := by decide +kernel
set_option maxRecDepth 100000 in
theorem mO127 : mOk 127 = true := by decide +kernel
set_option maxRecDepth 100000 in
theorem mO128 : mOk 128 = true := by decide +kernel
set_option maxRecDepth 100000 in
theorem mO129 : mOk 129 = true := by decide +kernel
set_option maxRecDepth 100000 in
theorem mO130 : mOk 130 = true := by decide +kernel
set_option maxRecDepth 100000 in
theorem mO131 : mOk 131 = true := by decide +kernel
set_option maxRecDepth 100000 in
theorem mO132 : mOk 132 = true := by decide +kernel
set_option maxRecDepth 100000 in
theorem mO133 : mOk 133 = true := by decide +kernel
set_option maxRecDepth 100000 in
theorem mO134 : mOk 134 = true := by decide +kernel
set_option maxRecDepth 100000 in
theorem mO135 : mOk 135 = true := by decide +kernel
set_option maxRecDepth 100000 in
theorem mO136 : mOk 136 = true := by decide +kernel
set_option maxRecDepth 100000 in
theorem mO137 : mOk 137 = true := by decide +kernel
set_option maxRecDepth 100000 in
theorem mO138 : mOk 138 = true := by decide +kernel
set_option maxRecDepth 100000 in
theorem mO139 : mOk 139 = true := by decide +kernel
set_option maxRecDepth 100000 in
theorem mO140 : mOk 140 = true := by decide +kernel
set_option maxRecDepth 100000 in
theorem mO141 : mOk 141 = true := by decide +kernel
set_option maxRecDepth 100000 in
theorem mO142 : mOk 142 = true := by decide +kernel
set_option maxRecDepth 100000 in
theorem mO143 : mOk 143 = true := by decide +kernel
set_option maxRecDepth 100000 in
theorem mO144 : mOk 144 = true := by decide +kernel
set_option maxRecDepth 100000 in
theorem mO145 : mOk 145 = true := by decide +kernel
set_option maxRecDepth 100000 in
theorem mO146 : mOk 146 = true := by decide +kernel
set_option maxRecDepth 100000 in
theorem mO147 : mOk 147 = true := by decide +kernel
set_option maxRecDepth 100000 in
theorem mO148 : mOk 148 = true := by decide +kernel
set_option maxRecDepth 100000 in
theorem mO149 : mOk 149 = true := by decide +kernel
set_option maxRecDepth 100000 in
theorem mO150 : mOk 150 = true := by decide +kernel
set_option maxRecDepth 100000 in
theorem mO151 : mOk 151 = true := by decide +kernel
set_option maxRecDepth 100000 in
theorem mO152 : mOk 152 = true := by decide +kernel
set_option maxRecDepth 100000 in
theorem mO153 : mOk 153 = true := by decide +kernel
set_option maxRecDepth 100000 in
theorem mO154 : mOk 154 = true := by decide +kernel
set_option maxRecDepth 100000 in
theorem mO155 : mOk 155 = true := by decide +kernel
set_option maxRecDepth 100000 in
theorem mO156 : mOk 156 = true := by decide +kernel
set_option maxRecDepth 100000 in
theorem mO157 : mOk 157 = true := by decide +kernel
set_option maxRecDepth 100000 in
theorem mO158 : mOk 158 = true := by decide +kernel
set_option maxRecDepth 100000 in
theorem mO159 : mOk 159 = true := by decide +kernel
set_option maxRecDepth 100000 in
theorem mO160 : mOk 160 = true := by decide +kernel
set_option maxRecDepth 100000 in
theorem mO161 : mOk 161 = true := by decide +kernel
set_option maxRecDepth 100000 in
theorem mO162 : mOk 162 = true := by decide +kernel
set_option maxRecDepth 100000 in
theorem mO163 : mOk 163 = true := by decide +kernel
set_option maxRecDepth 100000 in
theorem mO164 : mOk 164 = true := by decide +kernel
set_option maxRecDepth 100000 in
theorem mO165 : mOk 165 = true := by decide +kernel
set_option maxRecDepth 100000 in
theorem mO166 : mOk 166 = true := by decide +kernel
set_option maxRecDepth 100000 in
theorem mO167 : mOk 167 = true := by decide +kernel
set_option maxRecDepth 100000 in
theorem mO168 : mOk 168 = true := by decide +kernel
set_option maxRecDepth 100000 in
theorem mO169 : mOk 169 = true := by decide +kernel
set_option maxRecDepth 100000 in
theorem mO170 : mOk 170 = true := by decide +kernel
set_option maxRecDepth 100000 in
theorem mO171 : mOk 171 = true := by decide +kernel
set_option maxRecDepth 100000 in
theorem mO172 : mOk 172 = true := by decide +kernel
set_option maxRecDepth 100000 in
theorem mO173 : mOk 173 = true := by decide +kernel
set_option maxRecDepth 100000 in
theorem mO174 : mOk 174 = true := by decide +kernel
set_option maxRecDepth 100000 in
theorem mO175 : mOk 175 = true := by decide +kernel
set_option maxRecDepth 100000 in
theorem mO176 : mOk 176 = true := by decide +kernel
set_option maxRecDepth 100000 in
theorem mO177 : mOk 177 = true := by decide +kernel
set_option maxRecDepth 100000 in
theorem mO178 : mOk 178 = true := by decide +kernel
set_option maxRecDepth 100000 in
theorem mO179 : mOk 179 = true := by decide +kernel
set_option maxRecDepth 100000 in
theorem mO180 : mOk 180 = true := by decide +kernel
set_option maxRecDepth 100000 in
theorem mO181 : mOk 181 = true := by decide +kernel
set_option maxRecDepth 100000 in
theorem mO182 : mOk 182 = true := by decide +kernel
set_option maxRecDepth 100000 in
theorem mO183 : mOk 183 = true := by decide +kernel
set_option maxRecDepth 100000 in
theorem mO184 : mOk 184 = true := by decide +kernel
set_option maxRecDepth 100000 in
theorem mO185 : mOk 185 = true := by decide +kernel
set_option maxRecDepth 100000 in
theorem mO186 : mOk 186 = true := by decide +kernel
set_option maxRecDepth 100000 in
theorem mO187 : mOk 187 = true := by decide +kernel
set_option maxRecDepth 100000 in
theorem mO188 : mOk 188 = true := by decide +kernel
set_option maxRecDepth 100000 in
theorem mO189 : mOk 189 = true := by decide +kernel
set_option maxRecDepth 100000 in
theorem mO190 : mOk 190 = true := by decide +kernel
set_option maxRecDepth 100000 in
theorem mO191 : mOk 191 = true := by decide +kernel
set_option maxRecDepth 100000 in
theorem mO192 : mOk 192 = true := by decide +kernel
set_option maxRecDepth 100000 in
theorem mO193 : mOk 193 = true := by decide +kernel
set_option maxRecDepth 100000 in
theorem mO194 : mOk 194 = true := by decide +kernel
set_option maxRecDepth 100000 in
theorem mO195 : mOk 195 = true := by decide +kernel
set_option maxRecDepth 100000 in
theorem mO196 : mOk 196 = true := by decide +kernel
set_option maxRecDepth 100000 in
theorem mO197 : mOk 197 = true := by decide +kernel
set_option maxRecDepth 100000 in
theorem mO198 : mOk 198 = true := by decide +kernel
set_option maxRecDepth 100000 in
theorem mO199 : mOk 199 = true := by decide +kernel
set_option maxRecDepth 100000 in
theorem mO200 : mOk 200 = true := by decide +kernel
set_option maxRecDepth 100000 in
theorem mO201 : mOk 201 = true := by decide +kernel
set_option maxRecDepth 100000 in
theorem mO202 : mOk 202 = true := by decide +kernel
set_option maxRecDepth 100000 in
theorem mO203 : mOk 203 = true := by decide +kernel
set_option maxRecDepth 100000 in
theorem mO204 : mOk 204 = true := by decide +kernel
set_option maxRecDepth 100000 in
theorem mO205 : mOk 205 = true := by decide +kernel
set_option maxRecDepth 100000 in
theorem mO206 : mOk 206 = true := by decide +kernel
set_option maxRecDepth 100000 in
theorem mO207 : mOk 207 = true := by decide +kernel
set_option maxRecDepth 100000 in
theorem mO208 : mOk 208 = true := by decide +kernel
set_option maxRecDepth 100000 in
theorem mO209 : mOk 209 = true := by decide +kernel
set_option maxRecDepth 100000 in
theorem mO210 : mOk 210 = true := by decide +kernel
set_option maxRecDepth 100000 in
theorem mO211 : mOk 211 = true := by decide +kernel
set_option maxRecDepth 100000 in
theorem mO212 : mOk 212 = true := by decide +kernel
set_option maxRecDepth 100000 in
theorem mO213 : mOk 213 = true := by decide +kernel
set_option maxRecDepth 100000 in
theorem mO214 : mOk 214 = true := by decide +kernel
set_option maxRecDepth 100000 in
theorem mO215 : mOk 215 = true := by decide +kernel
set_option maxRecDepth 100000 in
theorem mO216 : mOk 216 = true := by decide +kernel
set_option maxRecDepth 100000 in
theorem mO217 : mOk 217 = true := by decide +kernel
set_option maxRecDepth 100000 in
theorem mO218 : mOk 218 = true := by decide +kernel
set_option maxRecDepth 100000 in
theorem mO219 : mOk 219 = true := by decide +kernel
set_option maxRecDepth 100000 in
theorem mO220 : mOk 220 = true := by decide +kernel
theorem mOc0 : ∀ y ∈ ([0, 1, 2, 3, 4, 5, 6, 7, 8, 9, 10, 11, 12, 13, 14, 15, 16, 17, 18, 19] : List Nat), mOk y = true := List.forall_mem_cons.mpr ⟨mO0, List.forall_mem_cons.mpr ⟨mO1, List.forall_mem_cons.mpr ⟨mO2, List.forall_mem_cons.mpr ⟨mO3, List.forall_mem_cons.mpr ⟨mO4, List.forall_mem_cons.mpr ⟨mO5, List.forall_mem_cons.mpr ⟨mO6, List.forall_mem_cons.mpr ⟨mO7, List.forall_mem_cons.mpr ⟨mO8, List.forall_mem_cons.mpr ⟨mO9, List.forall_mem_cons.mpr ⟨mO10, List.forall_mem_cons.mpr ⟨mO11, List.forall_mem_cons.mpr ⟨mO12, List.forall_mem_cons.mpr ⟨mO13, List.forall_mem_cons.mpr ⟨mO14, List.forall_mem_cons.mpr ⟨mO15, List.forall_mem_cons.mpr ⟨mO16, List.forall_mem_cons.mpr ⟨mO17, List.forall_mem_cons.mpr ⟨mO18, List.forall_mem_cons.mpr ⟨mO19, fun _ h => absurd h List.not_mem_nil⟩⟩⟩⟩⟩⟩⟩⟩⟩⟩⟩⟩⟩⟩⟩⟩⟩⟩⟩⟩
theorem mOc1 : ∀ y ∈ ([20, 21, 22, 23, 24, 25, 26, 27, 28, 29, 30, 31, 32, 33, 34, 35, 36, 37, 38, 39] : List Nat), mOk y = true := List.forall_mem_cons.mpr ⟨mO20, List.forall_mem_cons.mpr ⟨mO21, List.forall_mem_cons.mpr ⟨mO22, List.forall_mem_cons.mpr ⟨mO23, List.forall_mem_cons.mpr ⟨mO24, List.forall_mem_cons.mpr ⟨mO25, List.forall_mem_cons.mpr ⟨mO26, List.forall_mem_cons.mpr ⟨mO27, List.forall_mem_cons.mpr ⟨mO28, List.forall_mem_cons.mpr ⟨mO29, List.forall_mem_cons.mpr ⟨mO30, List.forall_mem_cons.mpr ⟨mO31, List.forall_mem_cons.mpr ⟨mO32, List.forall_mem_cons.mpr ⟨mO33, List.forall_mem_cons.mpr ⟨mO34, List.forall_mem_cons.mpr ⟨mO35, List.forall_mem_cons.mpr ⟨mO36, List.forall_mem_cons.mpr ⟨mO37, List.forall_mem_cons.mpr ⟨mO38, List.forall_mem_cons.mpr ⟨mO39, fun _ h => absurd h List.not_mem_nil⟩⟩⟩⟩⟩⟩⟩⟩⟩⟩⟩⟩⟩⟩⟩⟩⟩⟩⟩⟩
theorem mOc2 : ∀ y ∈ ([40, 41, 42, 43, 44, 45, 46, 47, 48, 49, 50, 51, 52, 53, 54, 55, 56, 57, 58, 59] : List Nat), mOk y = true := List.forall_mem_cons.mpr ⟨mO40, List.forall_mem_cons.mpr ⟨mO41, List.forall_mem_cons.mpr ⟨mO42, List.forall_mem_cons.mpr ⟨mO43, List.forall_mem_cons.mpr ⟨mO44, List.forall_mem_cons.mpr ⟨mO45, List.forall_mem_cons.mpr ⟨mO46, List.forall_mem_cons.mpr ⟨mO47, List.forall_mem_cons.mpr ⟨mO48, List.forall_mem_cons.mpr ⟨mO49, List.forall_mem_cons.mpr ⟨mO50, List.forall_mem_cons.mpr ⟨mO51, List.forall_mem_cons.mpr ⟨mO52, List.forall_mem_cons.mpr ⟨mO53, List.forall_mem_cons.mpr ⟨mO54, List.forall_mem_cons.mpr ⟨mO55, List.forall_mem_cons.mpr ⟨mO56, List.forall_mem_cons.mpr ⟨mO57, List.forall_mem_cons.mpr ⟨mO58, List.forall_mem_cons.mpr ⟨mO59, fun _ h => absurd h List.not_mem_nil⟩⟩⟩⟩⟩⟩⟩⟩⟩⟩⟩⟩⟩⟩⟩⟩⟩⟩⟩⟩
theorem mOc3 : ∀ y ∈ ([60, 61, 62, 63, 64, 65, 66, 67, 68, 69, 70, 71, 72, 73, 74, 75, 76, 77, 78, 79] : List Nat), mOk y = true := List.forall_mem_cons.mpr ⟨mO60, List.forall_mem_cons.mpr ⟨mO61, List.forall_mem_cons.mpr ⟨mO62, List.forall_mem_cons.mpr ⟨mO63, List.forall_mem_cons.mpr ⟨mO64, List.forall_mem_cons.mpr ⟨mO65, List.forall_mem_cons.mpr ⟨mO66, List.forall_mem_cons.mpr ⟨mO67, List.forall_mem_cons.mpr ⟨mO68, List.forall_mem_cons.mpr ⟨mO69, List.forall_mem_cons.mpr ⟨mO70, List.forall_mem_cons.mpr ⟨mO71, List.forall_mem_cons.mpr ⟨mO72, List.forall_mem_cons.mpr ⟨mO73, List.forall_mem_cons.mpr ⟨mO74, List.forall_mem_cons.mpr ⟨mO75, List.forall_mem_cons.mpr ⟨mO76, List.forall_mem_cons.mpr ⟨mO77, List.forall_mem_cons.mpr ⟨mO78, List.forall_mem_cons.mpr ⟨mO79, fun _ h => absurd h List.not_mem_nil⟩⟩⟩⟩⟩⟩⟩⟩⟩⟩⟩⟩⟩⟩⟩⟩⟩⟩⟩⟩
theorem mOc4 : ∀ y ∈ ([80, 81, 82, 83, 84, 85, 86, 87, 88, 89, 90, 91, 92, 93, 94, 95, 96, 97, 98, 99] : List Nat), mOk y = true := List.forall_mem_cons.mpr ⟨mO80, List.forall_mem_cons.mpr ⟨mO81, List.forall_mem_cons.mpr ⟨mO82, List.forall_mem_cons.mpr ⟨mO83, List.forall_mem_cons.mpr ⟨mO84, List.forall_mem_cons.mpr ⟨mO85, List.forall_mem_cons.mpr ⟨mO86, List.forall_mem_cons.mpr ⟨mO87, List.forall_mem_cons.mpr ⟨mO88, List.forall_mem_cons.mpr ⟨mO89, List.forall_mem_cons.mpr ⟨mO90, List.forall_mem_cons.mpr ⟨mO91, List.forall_mem_cons.mpr ⟨mO92, List.forall_mem_cons.mpr ⟨mO93, List.forall_mem_cons.mpr ⟨mO94, List.forall_mem_cons.mpr ⟨mO95, List.forall_mem_cons.mpr ⟨mO96, List.forall_mem_cons.mpr ⟨mO97, List.forall_mem_cons.mpr ⟨mO98, List.forall_mem_cons.mpr ⟨mO99, fun _ h => absurd h List.not_mem_nil⟩⟩⟩⟩⟩⟩⟩⟩⟩⟩⟩⟩⟩⟩⟩⟩⟩⟩⟩⟩
theorem mOc5 : ∀ y ∈ ([100, 101, 102, 103, 104, 105, 106, 107, 108, 109, 110, 111, 112, 113, 114, 115, 116, 117, 118, 119] : List Nat), mOk y = true := List.forall_mem_cons.mpr ⟨mO100, List.forall_mem_cons.mpr ⟨mO101, List.forall_mem_cons.mpr ⟨mO102, List.forall_mem_cons.mpr ⟨mO103, List.forall_mem_cons.mpr ⟨mO104, List.forall_mem_cons.mpr ⟨mO105, List.forall_mem_cons.mpr ⟨mO106, List.forall_mem_cons.mpr ⟨mO107, List.forall_mem_cons.mpr ⟨mO108, List.forall_mem_cons.mpr ⟨mO109, List.forall_mem_cons.mpr ⟨mO110, List.forall_mem_cons.mpr ⟨mO111, List.forall_mem_cons.mpr ⟨mO112, List.forall_mem_cons.mpr ⟨mO113, List.forall_mem_cons.mpr ⟨mO114, List.forall_mem_cons.mpr ⟨mO115, List.forall_mem_cons.mpr ⟨mO116, List.forall_mem_cons.mpr ⟨mO117, List.forall_mem_cons.mpr ⟨mO118, List.forall_mem_cons.mpr ⟨mO119, fun _ h => absurd h List.not_mem_nil⟩⟩⟩⟩⟩⟩⟩⟩⟩⟩⟩⟩⟩⟩⟩⟩⟩⟩⟩⟩
theorem mOc6 : ∀ y ∈ ([120, 121, 122, 123, 124, 125, 126, 127, 128, 129, 130, 131, 132, 133, 134, 135, 136, 137, 138, 139] : List Nat), mOk y = true := List.forall_mem_cons.mpr ⟨mO120, List.forall_mem_cons.mpr ⟨mO121, List.forall_mem_cons.mpr ⟨mO122, List.forall_mem_cons.mpr ⟨mO123, List.forall_mem_cons.mpr ⟨mO124, List.forall_mem_cons.mpr ⟨mO125, List.forall_mem_cons.mpr ⟨mO126, List.forall_mem_cons.mpr ⟨mO127, List.forall_mem_cons.mpr ⟨mO128, List.forall_mem_cons.mpr ⟨mO129, List.forall_mem_cons.mpr ⟨mO130, List.forall_mem_cons.mpr ⟨mO131, List.forall_mem_cons.mpr ⟨mO132, List.forall_mem_cons.mpr ⟨mO133, List.forall_mem_cons.mpr ⟨mO134, List.forall_mem_cons.mpr ⟨mO135, List.forall_mem_cons.mpr ⟨mO136, List.forall_mem_cons.mpr ⟨mO137, List.forall_mem_cons.mpr ⟨mO138, List.forall_mem_cons.mpr ⟨mO139, fun _ h => absurd h List.not_mem_nil⟩⟩⟩⟩⟩⟩⟩⟩⟩⟩⟩⟩⟩⟩⟩⟩⟩⟩⟩⟩
theorem mOc7 : ∀ y ∈ ([140, 141, 142, 143, 144, 145, 146, 147, 148, 149, 150, 151, 152, 153, 154, 155, 156, 157, 158, 159] : List Nat), mOk y = true := List.forall_mem_cons.mpr ⟨mO140, List.forall_mem_cons.mpr ⟨mO141, List.forall_mem_cons.mpr ⟨mO142, List.forall_mem_cons.mpr ⟨mO143, List.forall_mem_cons.mpr ⟨mO144, List.forall_mem_cons.mpr ⟨mO145, List.forall_mem_cons.mpr ⟨mO146, List.forall_mem_cons.mpr ⟨mO147, List.forall_mem_cons.mpr ⟨mO148, List.forall_mem_cons.mpr ⟨mO149, List.forall_mem_cons.mpr ⟨mO150, List.forall_mem_cons.mpr ⟨mO151, List.forall_mem_cons.mpr ⟨mO152, List.forall_mem_cons.mpr ⟨mO153, List.forall_mem_cons.mpr ⟨mO154, List.forall_mem_cons.mpr ⟨mO155, List.forall_mem_cons.mpr ⟨mO156, List.forall_mem_cons.mpr ⟨mO157, List.forall_mem_cons.mpr ⟨mO158, List.forall_mem_cons.mpr ⟨mO159, fun _ h => absurd h List.not_mem_nil⟩⟩⟩⟩⟩⟩⟩⟩⟩⟩⟩⟩⟩⟩⟩⟩⟩⟩⟩⟩
theorem mOc8 : ∀ y ∈ ([160, 161, 162, 163, 164, 165, 166, 167, 168, 169, 170, 171, 172, 173, 174, 175, 176, 177, 178, 179] : List Nat), mOk y = true := List.forall_mem_cons.mpr ⟨mO160, List.forall_mem_cons.mpr ⟨mO161, List.forall_mem_cons.mpr ⟨mO162, List.forall_mem_cons.mpr ⟨mO163, List.forall_mem_cons.mpr ⟨mO164, List.forall_mem_cons.mpr ⟨mO165, List.forall_mem_cons.mpr ⟨mO166, List.forall_mem_cons.mpr ⟨mO167, List.forall_mem_cons.mpr ⟨mO168, List.forall_mem_cons.mpr ⟨mO169, List.forall_mem_cons.mpr ⟨mO170, List.forall_mem_cons.mpr ⟨mO171, List.forall_mem_cons.mpr ⟨mO172, List.forall_mem_cons.mpr ⟨mO173, List.forall_mem_cons.mpr ⟨mO174, List.forall_mem_cons.mpr ⟨mO175, List.forall_mem_cons.mpr ⟨mO176, List.forall_mem_cons.mpr ⟨mO177, List.forall_mem_cons.mpr ⟨mO178, List.forall_mem_cons.mpr ⟨mO179, fun _ h => absurd h List.not_mem_nil⟩⟩⟩⟩⟩⟩⟩⟩⟩⟩⟩⟩⟩⟩⟩⟩⟩⟩⟩⟩
theorem mOc9 : ∀ y ∈ ([180, 181, 182, 183, 184, 185, 186, 187, 188, 189, 190, 191, 192, 193, 194, 195, 196, 197, 198, 199] : List Nat), mOk y = true := List.forall_mem_cons.mpr ⟨mO180, List.forall_mem_cons.mpr ⟨mO181, List.forall_mem_cons.mpr ⟨mO182, List.forall_mem_cons.mpr ⟨mO183, List.forall_mem_cons.mpr ⟨mO184, List.forall_mem_cons.mpr ⟨mO185, List.forall_mem_cons.mpr ⟨mO186, List.forall_mem_cons.mpr ⟨mO187, List.forall_mem_cons.mpr ⟨mO188, List.forall_mem_cons.mpr ⟨mO189, List.forall_mem_cons.mpr ⟨mO190, List.forall_mem_cons.mpr ⟨mO191, List.forall_mem_cons.mpr ⟨mO192, List.forall_mem_cons.mpr ⟨mO193, List.forall_mem_cons.mpr ⟨mO194, List.forall_mem_cons.mpr ⟨mO195, List.forall_mem_cons.mpr ⟨mO196, List.forall_mem_cons.mpr ⟨mO197, List.forall_mem_cons.mpr ⟨mO198, List.forall_mem_cons.mpr ⟨mO199, fun _ h => absurd h List.not_mem_nil⟩⟩⟩⟩⟩⟩⟩⟩⟩⟩⟩⟩⟩⟩⟩⟩⟩⟩⟩⟩
theorem mOc10 : ∀ y ∈ ([200, 201, 202, 203, 204, 205, 206, 207, 208, 209, 210, 211, 212, 213, 214, 215, 216, 217, 218, 219] : List Nat), mOk y = true := List.forall_mem_cons.mpr ⟨mO200, List.forall_mem_cons.mpr ⟨mO201, List.forall_mem_cons.mpr ⟨mO202, List.forall_mem_cons.mpr ⟨mO203, List.forall_mem_cons.mpr ⟨mO204, List.forall_mem_cons.mpr ⟨mO205, List.forall_mem_cons.mpr ⟨mO206, List.forall_mem_cons.mpr ⟨mO207, List.forall_mem_cons.mpr ⟨mO208, List.forall_mem_cons.mpr ⟨mO209, List.forall_mem_cons.mpr ⟨mO210, List.forall_mem_cons.mpr ⟨mO211, List.forall_mem_cons.mpr ⟨mO212, List.forall_mem_cons.mpr ⟨mO213, List.forall_mem_cons.mpr ⟨mO214, List.forall_mem_cons.mpr ⟨mO215, List.forall_mem_cons.mpr ⟨mO216, List.forall_mem_cons.mpr ⟨mO217, List.forall_mem_cons.mpr ⟨mO218, List.forall_mem_cons.mpr ⟨mO219, fun _ h => absurd h List.not_mem_nil⟩⟩⟩⟩⟩⟩⟩⟩⟩⟩⟩⟩⟩⟩⟩⟩⟩⟩⟩⟩
theorem mOc11 : ∀ y ∈ ([220] : List Nat), mOk y = true := List.forall_mem_cons.mpr ⟨mO220, fun _ h => absurd h List.not_mem_nil⟩
theorem mO_rng : List.range 221 = [0, 1, 2, 3, 4, 5, 6, 7, 8, 9, 10, 11, 12, 13, 14, 15, 16, 17, 18, 19] ++ ([20, 21, 22, 23, 24, 25, 26, 27, 28, 29, 30, 31, 32, 33, 34, 35, 36, 37, 38, 39] ++ ([40, 41, 42, 43, 44, 45, 46, 47, 48, 49, 50, 51, 52, 53, 54, 55, 56, 57, 58, 59] ++ ([60, 61, 62, 63, 64, 65, 66, 67, 68, 69, 70, 71, 72, 73, 74, 75, 76, 77, 78, 79] ++ ([80, 81, 82, 83, 84, 85, 86, 87, 88, 89, 90, 91, 92, 93, 94, 95, 96, 97, 98, 99] ++ ([100, 101, 102, 103, 104, 105, 106, 107, 108, 109, 110, 111, 112, 113, 114, 115, 116, 117, 118, 119] ++ ([120, 121, 122, 123, 124, 125, 126, 127, 128, 129, 130, 131, 132, 133, 134, 135, 136, 137, 138, 139] ++ ([140, 141, 142, 143, 144, 145, 146, 147, 148, 149, 150, 151, 152, 153, 154, 155, 156, 157, 158, 159] ++ ([160, 161, 162, 163, 164, 165, 166, 167, 168, 169, 170, 171, 172, 173, 174, 175, 176, 177, 178, 179] ++ ([180, 181, 182, 183, 184, 185, 186, 187, 188, 189, 190, 191, 192, 193, 194, 195, 196, 197, 198, 199] ++ ([200, 201, 202, 203, 204, 205, 206, 207, 208, 209, 210, 211, 212, 213, 214, 215, 216, 217, 218, 219] ++ ([220]))))))))))) := by decide +kernel
theorem mOk_at {y : Nat} (h : y < 221) : mOk y = true := by
  have h := List.mem_range.mpr h
  rw [mO_rng] at h
  exact (List.mem_append.mp h).elim (mOc0 y) (fun h => (List.mem_append.mp h).elim (mOc1 y) (fun h => (List.mem_append.mp h).elim (mOc2 y) (fun h => (List.mem_append.mp h).elim (mOc3 y) (fun h => (List.mem_append.mp h).elim (mOc4 y) (fun h => (List.mem_append.mp h).elim (mOc5 y) (fun h => (List.mem_append.mp h).elim (mOc6 y) (fun h => (List.mem_append.mp h).elim (mOc7 y) (fun h => (List.mem_append.mp h).elim (mOc8 y) (fun h => (List.mem_append.mp h).elim (mOc9 y) (fun h => (List.mem_append.mp h).elim (mOc10 y) (fun h => mOc11 y h)))))))))))
def cw : List (Nat × Nat × List Nat) := [(154, 87, [256, 258, 260]), (264, 90, [273, 275]), (161, 88, [241, 243, 245, 247, 249]), (279, 91, [296, 298, 300, 302, 304, 306, 308, 310]), (168, 89, [205, 207, 209, 211, 213, 215, 217, 219, 221, 223]), (105, 85, [117, 119, 121]), (314, 92, [327, 329, 331, 333, 335]), (126, 86, [140, 142, 144, 146, 148, 150]), (97, 84, [354, 356, 358, 360, 362, 364, 366, 368, 370, 372, 374, 376, 378, 380]), (914, 93, [940, 942, 944, 946, 948, 950, 952, 954, 956, 958, 960, 962, 964, 966, 968, 970, 972, 974, 976, 978])]
def cW (ci : Nat) : Nat × Nat × List Nat := cw.getD ci (0, 0, [])
def cOk (ci : Nat) : Bool := match vwCl[ci]? with
  | some (C, T, N) => wd (cW ci).1 (.instantiable C N) && wd (cW ci).2.1 (.initialized C) && decide (u_ws C T N = (cW ci).2.2.filterMap (fun i => lw_tbl[i]?)) && (u_ws C T N).all goodWord && decide (N = nF ci)
  | none => false
set_option maxRecDepth 100000 in
theorem cO0 : cOk 0 = true := by decide +kernel
set_option maxRecDepth 100000 in
theorem cO1 : cOk 1 = true := by decide +kernel
set_option maxRecDepth 100000 in
theorem cO2 : cOk 2 = true := by decide +kernel
set_option maxRecDepth 100000 in
theorem cO3 : cOk 3 = true := by decide +kernel
set_option maxRecDepth 100000 in
theorem cO4 : cOk 4 = true := by decide +kernel
set_option maxRecDepth 100000 in
theorem cO5 : cOk 5 = true := by decide +kernel
set_option maxRecDepth 100000 in
theorem cO6 : cOk 6 = true := by decide +kernel
set_option maxRecDepth 100000 in
theorem cO7 : cOk 7 = true := by decide +kernel
set_option maxRecDepth 100000 in
theorem cO8 : cOk 8 = true := by decide +kernel
set_option maxRecDepth 100000 in
theorem cO9 : cOk 9 = true := by decide +kernel
theorem cOk_all : ∀ y ∈ ([0, 1, 2, 3, 4, 5, 6, 7, 8, 9] : List Nat), cOk y = true := List.forall_mem_cons.mpr ⟨cO0, List.forall_mem_cons.mpr ⟨cO1, List.forall_mem_cons.mpr ⟨cO2, List.forall_mem_cons.mpr ⟨cO3, List.forall_mem_cons.mpr ⟨cO4, List.forall_mem_cons.mpr ⟨cO5, List.forall_mem_cons.mpr ⟨cO6, List.forall_mem_cons.mpr ⟨cO7, List.forall_mem_cons.mpr ⟨cO8, List.forall_mem_cons.mpr ⟨cO9, fun _ h => absurd h List.not_mem_nil⟩⟩⟩⟩⟩⟩⟩⟩⟩⟩
theorem cOk_at {ci : Nat} (h : ci < 10) : cOk ci = true := by
  have h := List.mem_range.mpr h
  rw [show List.range 10 = [0, 1, 2, 3, 4, 5, 6, 7, 8, 9] by decide] at h
  exact cOk_all ci h
theorem cl_at {ci : Nat} {q : vw_C} (h : vwCl[ci]? = some q) : ci < 10 := (List.getElem?_eq_some_iff.mp h).1
theorem cl_ws {ci : Nat} {C : String} {T : u_T} {N : Nat} (h : vwCl[ci]? = some (C, T, N)) : ∀ w ∈ u_ws C T N, w ∈ tblG := by
  have hk := cOk_at (cl_at h)
  unfold cOk at hk
  rw [h] at hk
  simp only [Bool.and_eq_true, decide_eq_true_eq] at hk
  intro w hw
  refine List.mem_filter.mpr ⟨?_, List.all_eq_true.mp hk.1.2 w hw⟩
  rw [hk.1.1.2] at hw
  obtain ⟨i, -, hi⟩ := List.mem_filterMap.mp hw
  exact List.mem_of_getElem? hi
theorem cl_inst {ci : Nat} {C : String} {T : u_T} {N : Nat} (h : vwCl[ci]? = some (C, T, N)) : Cond.instantiable C N ∈ tblG ∧ Cond.initialized C ∈ tblG ∧ N = nF ci := by
  have hk := cOk_at (cl_at h)
  unfold cOk at hk
  rw [h] at hk
  simp only [Bool.and_eq_true, decide_eq_true_eq] at hk
  exact ⟨wd_in hk.1.1.1.1, wd_in hk.1.1.1.2, hk.2⟩
theorem w_aI : Cond.arrayClass .int ∈ tblG := wd_in (i := 124) (by decide +kernel)
theorem w_aZ : Cond.arrayClass .boolean ∈ tblG := wd_in (i := 383) (by decide +kernel)
theorem w_oP : Cond.arrayOver (.object RX4) ∈ lw_tbl := wdN_in (i := 167) (by decide +kernel)
theorem w_oC : Cond.arrayOver (.object RX2) ∈ lw_tbl := wdN_in (i := 160) (by decide +kernel)
theorem w_oI : Cond.arrayOver (.array .int) ∈ lw_tbl := wdN_in (i := 111) (by decide +kernel)
theorem w_nat : Cond.native arraycopyName ∈ tblG := wd_in (i := 431) (by decide +kernel)
theorem w_sac : Cond.static arraycopyName ∈ tblG := wd_in (i := 430) (by decide +kernel)
theorem w_iS : Cond.initialized "java/lang/System" ∈ tblG := wd_in (i := 94) (by decide +kernel)
theorem w_iM : Cond.initialized "java/lang/Math" ∈ tblG := wd_in (i := 95) (by decide +kernel)
theorem w_sMin : Cond.static Lib.Math.min.name ∈ tblG := wd_in (i := 533) (by decide +kernel)
theorem w_cMin : Cond.code Lib.Math.min.name Lib.Math.min.code 2 (some .int) ∈ tblG := wd_in (i := 534) (by decide +kernel)
theorem w_oi : Cond.instanceMethod objectInit ∈ tblG := wd_in (i := 102) (by decide +kernel)
theorem w_oc : Cond.code objectInit ⟨#[0xb1]⟩ 1 none ∈ tblG := wd_in (i := 103) (by decide +kernel)
theorem w_ls : Cond.laysStatic "SpentWeeks" "IS_TOO" "[I" ∈ lw_tbl := wdN_in (i := 556) (by decide +kernel)
theorem w_iW : Cond.initialized "SpentWeeks" ∈ tblG := wd_in (i := 84) (by decide +kernel)
def isNst : Cond → Bool
  | .fieldLinkNest .. => true
  | .methodLinkNest .. => true
  | _ => false
def nestW : List Cond := lw_tbl.filter isNst
