/-! THE WORDS that the tables rest on are among lw_tbl. -/
theorem z_in {w : Cond} (h : w ∈ lw_tbl) (hg : goodWord w = true) : w ∈ z_tb := List.mem_filter.mpr ⟨h, hg⟩
theorem z_good {w : Cond} (h : w ∈ z_tb) : (w.onTables && w.keeps) = true ∨ ∃ ty, w = .arrayClass ty := good_of_word (List.mem_filter.mp h).2
abbrev z_own (n : Nat) : String := z_owners.getD n ""
abbrev z_yy (Y : Nat) : MethodName := z_ys.getD Y ⟨"", "", ""⟩
abbrev z_cc (Y : Nat) : ByteArray := z_codes.getD Y ⟨#[]⟩
abbrev z_mx (Y : Nat) : Nat := z_ml.getD Y 0
abbrev z_rt (Y : Nat) : Option FieldType := z_rets.getD Y none
def z_flp : List Nat := [372, 373, 347, 337, 293, 302, 308, 289, 300, 288, 292, 311, 314, 298, 304, 307, 386, 387, 333, 126, 140, 152, 338, 157, 162, 135, 348, 309, 144, 146, 148, 150, 155, 160, 165, 133, 139, 702, 703, 704, 252, 254, 255, 251, 253, 256, 257, 208, 205, 332, 342, 346, 336, 340, 134, 145, 147, 149, 344, 299, 131, 295, 291, 142, 154, 159, 164, 315, 313, 197, 199, 201, 209, 202, 200, 204, 203, 235, 129, 236, 237, 207, 136, 141, 127, 206, 408, 409, 412, 401, 402, 404, 403, 405, 406, 306, 294, 303, 407, 334, 138, 166, 151, 156, 161, 297, 130, 410, 436, 437, 438, 439, 440, 441, 442, 443, 444, 445, 446, 447, 448, 449, 450, 198, 210, 137, 343, 349, 290, 296, 301, 305, 310, 312, 335, 153, 158, 163, 339, 341, 411, 128, 143, 316, 345, 132, 1013, 1016, 1017, 1018, 1019, 1024, 1025, 1033, 1035, 1037, 1038, 1040, 1041, 1043, 1047, 1048, 1049, 1050, 1051, 1014, 1027, 1026, 1028, 1029, 1030, 1031, 1034, 1020, 1021, 1022, 1023, 1032, 1015, 1036, 1039, 1042, 1044, 1045, 1046]
def z_mkp : List Nat := [772, 776, 780, 784, 785, 789, 807, 615, 814, 844, 852, 856, 866, 870, 868, 871, 860, 861, 865, 867, 869, 803, 628, 630, 631, 632, 633, 646, 679, 680, 698, 637, 642, 661, 647, 673, 657, 651, 665, 669, 655, 284, 611, 881, 756, 827, 509, 522, 532, 504, 505, 513, 599, 574, 603, 570, 518, 575, 583, 591, 587, 595, 579, 400, 901, 905, 914, 918, 909, 910, 911, 912, 913, 943, 931, 122, 193, 231, 247, 277, 365, 368, 382, 395, 487, 499, 607, 624, 716, 724, 728, 736, 744, 748, 752, 757, 765, 768, 795, 810, 819, 823, 832, 840, 877, 885, 893, 919, 927, 939, 948, 949, 961, 962, 969, 897, 979, 995, 799, 1135, 1155, 1164, 1160, 1190, 1198, 1178, 1202, 1279, 1255, 1194, 1251, 1259, 1246, 1242, 1238, 1230, 1234, 1275, 1282, 1225, 1271, 1221, 1186, 1205, 1209, 1213, 1171, 1182, 1217, 1151, 1147, 1376, 1380, 1384, 1309, 1313, 1322, 1296, 1304, 1330, 1334, 1338, 1361, 1372, 1368, 1350, 1357, 1353, 1364, 1399, 1346, 1387, 1395, 1403, 1421, 1417, 1429, 1433, 1437, 1454, 1458, 1449, 1445, 1470, 1482, 1491, 1508, 526, 536, 540, 548, 543, 114, 1009, 483, 1131, 491, 1139, 495, 1288, 620, 1143, 712, 1292, 720, 1300, 732, 1317, 740, 1326, 761, 1342, 815, 1391, 828, 1407, 836, 1412, 873, 1425, 889, 1441, 923, 1462, 935, 1466, 944, 1474, 953, 1478, 957, 1486, 965, 1495, 970, 1499, 974, 1504, 983, 1512, 987, 1516, 991, 1525, 999, 1529, 1003, 1533]
def z_pi : List Nat := [99, 99, 99, 99, 99, 99, 99, 99, 98, 98, 98, 98, 98, 100, 100, 100, 100, 100, 93, 93, 93, 110, 110, 96, 96, 96, 96, 96, 96, 96, 96, 96, 96, 96, 97, 97, 97, 97, 97, 97, 97, 97, 97, 97, 97, 97, 94, 94, 94, 94, 94, 94, 94, 94, 94, 94, 95, 95, 95, 95, 95, 95, 101, 101, 101, 101, 101, 101, 101, 101, 92, 92, 92, 92, 92, 92, 92, 92, 92, 92, 92, 92, 92, 92, 92, 92, 92, 92, 92, 92, 92, 92, 92, 92, 92, 92, 92, 92, 92, 92, 92, 92, 92, 92, 92, 92, 92, 92, 92, 102, 102, 102, 102, 102, 102, 102, 102, 102, 102, 102, 102, 102, 102, 102, 102, 102, 102, 102, 102, 102, 102, 102, 102, 102, 102, 102, 102, 102, 102, 102, 102, 102, 102, 102, 102, 102, 102, 102, 102, 102, 102, 102, 102, 102, 102, 102, 102, 102, 102, 102, 102, 102, 102, 102, 102, 102, 102, 102, 102, 102, 102, 102, 102, 102, 102, 102, 102, 102, 102, 102, 102, 102, 102, 102, 102, 102, 102, 102, 102, 102, 102, 102, 102, 102, 102, 102, 102, 102, 102, 102, 102, 102, 102, 102, 102, 111, 103, 103, 103, 103, 103, 104, 107, 107, 105]
def z_ps : List Nat := [369, 769, 820, 773, 781, 786, 804, 808, 285, 612, 882, 616, 811, 383, 841, 854, 858, 863, 123, 588, 596, 699, 800, 248, 625, 635, 639, 649, 653, 659, 675, 667, 671, 663, 278, 608, 878, 729, 886, 749, 777, 753, 758, 996, 824, 845, 194, 488, 506, 510, 604, 580, 600, 643, 519, 571, 232, 500, 515, 585, 593, 577, 396, 898, 903, 916, 907, 940, 920, 928, 115, 484, 492, 496, 621, 713, 721, 733, 741, 762, 816, 829, 837, 874, 890, 924, 936, 945, 954, 958, 966, 971, 975, 984, 988, 992, 1000, 1004, 766, 834, 746, 726, 738, 718, 797, 895, 951, 963, 981, 1010, 1203, 1351, 1362, 1137, 1132, 1140, 1180, 1157, 1200, 1166, 1162, 1192, 1196, 1261, 1257, 1253, 1232, 1280, 1277, 1248, 1244, 1240, 1236, 1227, 1284, 1273, 1223, 1219, 1188, 1207, 1211, 1215, 1184, 1173, 1153, 1149, 1144, 1289, 1298, 1378, 1382, 1385, 1374, 1332, 1306, 1311, 1324, 1315, 1435, 1336, 1340, 1293, 1301, 1318, 1327, 1359, 1370, 1366, 1355, 1401, 1348, 1397, 1389, 1405, 1343, 1392, 1408, 1423, 1419, 1413, 1431, 1439, 1426, 1456, 1460, 1451, 1447, 1442, 1463, 1472, 1467, 1475, 1484, 1479, 1487, 1493, 1496, 1500, 1510, 1505, 1513, 1517, 1526, 1530, 1534, 790, 523, 533, 527, 537, 544, 541, 932, 681, 549]
def z_pe : List Nat := [0, 770, 821, 774, 782, 787, 805, 0, 0, 613, 883, 617, 812, 0, 842, 19, 20, 21, 0, 589, 597, 0, 801, 0, 626, 4, 5, 6, 7, 8, 12, 10, 11, 9, 0, 609, 879, 730, 887, 750, 778, 754, 759, 997, 825, 846, 0, 489, 507, 511, 605, 581, 601, 644, 520, 572, 0, 501, 0, 2, 3, 1, 0, 899, 23, 25, 24, 941, 921, 929, 0, 485, 493, 497, 622, 714, 722, 734, 742, 763, 817, 830, 838, 875, 891, 925, 937, 946, 955, 959, 967, 972, 976, 985, 989, 993, 1001, 1005, 0, 18, 16, 14, 15, 13, 17, 22, 26, 0, 27, 0, 0, 0, 0, 28, 1133, 1141, 35, 31, 40, 33, 32, 38, 39, 54, 53, 52, 47, 0, 56, 51, 50, 49, 48, 46, 57, 55, 45, 44, 37, 41, 42, 43, 36, 34, 30, 29, 1145, 1290, 58, 72, 73, 0, 71, 63, 59, 60, 62, 61, 81, 64, 65, 1294, 1302, 1319, 1328, 68, 70, 69, 67, 76, 66, 75, 74, 77, 1344, 1393, 1409, 79, 78, 1414, 80, 82, 1427, 85, 86, 84, 83, 1443, 1464, 87, 1468, 1476, 88, 1480, 1488, 89, 1497, 1501, 90, 1506, 1514, 1518, 1527, 1531, 1535, 0, 524, 534, 528, 538, 0, 0, 0, 0, 0]
theorem z_mem_zip {α : Type} : ∀ (l : List α) (ps : List Nat), l.length ≤ ps.length → ∀ q ∈ l, ∃ i, (q, i) ∈ l.zip ps
  | [], _, _, q, h => absurd h List.not_mem_nil
  | a :: l, [], hl, q, h => absurd hl (by simp)
  | a :: l, i :: ps, hl, q, h => by
    rcases List.mem_cons.mp h with rfl | h
    · exact ⟨i, by simp⟩
    · obtain ⟨j, hj⟩ := z_mem_zip l ps (by simpa using hl) q h
      exact ⟨j, by simp [hj]⟩
def z_flB (r : (Nat × Nat × Nat × Nat) × Nat) : Bool := match r with
  | (q, i) => decide (lw_tbl[i]? = some (Cond.fieldLink (z_own q.1) q.2.1 (z_cn q.2.2.1) (z_Ts q.2.2.1 q.2.2.2).2.1 (z_Ts q.2.2.1 q.2.2.2).2.2.1)) && decide (q.2.2.1 < 12) && decide (q.2.2.2 < z_fn q.2.2.1) && decide ((z_Ts q.2.2.1 q.2.2.2).1 = z_cn q.2.2.1)
theorem z_fl_a : (z_fl.zip z_flp).all z_flB = true := by decide +kernel
theorem z_fl_ok {q : Nat × Nat × Nat × Nat} (h : q ∈ z_fl) : Cond.fieldLink (z_own q.1) q.2.1 (z_cn q.2.2.1) (z_Ts q.2.2.1 q.2.2.2).2.1 (z_Ts q.2.2.1 q.2.2.2).2.2.1 ∈ z_tb ∧ q.2.2.1 < 12 ∧ q.2.2.2 < z_fn q.2.2.1 ∧ (z_Ts q.2.2.1 q.2.2.2).1 = z_cn q.2.2.1 := by
  obtain ⟨i, hi⟩ := z_mem_zip z_fl z_flp (by decide +kernel) q h
  have h1 := List.all_eq_true.mp z_fl_a _ hi
  simp only [z_flB, Bool.and_eq_true, decide_eq_true_eq] at h1
  exact ⟨z_in (List.mem_of_getElem? h1.1.1.1) rfl, h1.1.1.2, h1.1.2, h1.2⟩
def z_mkB (r : (Nat × Nat × Nat × Nat) × Nat) : Bool := match r with
  | (q, i) => decide (q.2.2.1 < 216 - 1) && (if q.2.2.2 = 0 then decide (lw_tbl[i]? = some (Cond.methodLink (z_own q.1) q.2.1 (z_yy q.2.2.1))) else decide (lw_tbl[i]? = some (Cond.methodLinkNest (z_own q.1) q.2.1 (z_yy q.2.2.1) "OtherHands")))
theorem z_mk_a : (z_mk.zip z_mkp).all z_mkB = true := by decide +kernel
theorem z_mk_0 {on x y : Nat} (h : (on, x, y, 0) ∈ z_mk) : y < 216 - 1 ∧ Cond.methodLink (z_own on) x (z_yy y) ∈ z_tb := by
  obtain ⟨i, hi⟩ := z_mem_zip z_mk z_mkp (by decide +kernel) _ h
  have h1 := List.all_eq_true.mp z_mk_a _ hi
  simp only [z_mkB, Bool.and_eq_true, decide_eq_true_eq, if_true] at h1
  exact ⟨h1.1, z_in (List.mem_of_getElem? h1.2) rfl⟩
theorem z_mk_1 {on x y : Nat} (h : (on, x, y, 1) ∈ z_mk) : y < 216 - 1 ∧ Cond.methodLinkNest (z_own on) x (z_yy y) "OtherHands" ∈ lw_tbl := by
  obtain ⟨i, hi⟩ := z_mem_zip z_mk z_mkp (by decide +kernel) _ h
  have h1 := List.all_eq_true.mp z_mk_a _ hi
  simp only [z_mkB, Bool.and_eq_true, decide_eq_true_eq, if_neg (show ¬ (1 : Nat) = 0 by decide)] at h1
  exact ⟨h1.1, List.mem_of_getElem? h1.2⟩
/-- the name of a class of objects, or of an array's elements -/
def z_cnE (k : Nat) : String := z_cn (if k < 100 then k else (z_elt (k - 100)).getD 0)
theorem z_ck_ok : ∀ q ∈ z_ck, Cond.classLink (z_own q.1) q.2.1 (z_cnE q.2.2) ∈ lw_tbl := by decide +kernel
theorem z_cst_ok : ∀ q ∈ z_cst, Cond.constant (z_own q.1) q.2.1 (Int32.ofInt q.2.2) ∈ lw_tbl := by decide +kernel
theorem z_csl_ok : ∀ q ∈ z_csl, Cond.constantLong (z_own q.1) q.2.1 (Int64.ofInt q.2.2) ∈ lw_tbl := by decide +kernel
theorem z_oi_ok : ∀ q ∈ z_oi, Cond.methodLink (z_own q.1) q.2 objectInit ∈ lw_tbl := by decide +kernel
theorem z_mi_ok : ∀ q ∈ z_mi, Cond.methodLink (z_own q.1) q.2 Lib.Math.min.name ∈ lw_tbl := by decide +kernel
theorem z_inst_ok : ∀ c ∈ List.range 12, Cond.instantiable (z_cn c) (z_fn c) ∈ lw_tbl ∧ Cond.initialized (z_cn c) ∈ lw_tbl := by decide +kernel
def z_lyB (c : Nat) : Bool := (u_ws (z_cn c) (z_Ts c) (z_fn c)).all (fun w => decide (w ∈ lw_tbl) && goodWord w)
theorem z_ly_a : (List.range 12).all z_lyB = true := by decide +kernel
theorem z_ly_ok {c : Nat} (hc : c < 12) : ∀ w ∈ u_ws (z_cn c) (z_Ts c) (z_fn c), w ∈ z_tb := by
  intro w hw
  have h := List.all_eq_true.mp (show z_lyB c = true from List.all_eq_true.mp z_ly_a c (List.mem_range.mpr hc)) w hw
  simp only [Bool.and_eq_true, decide_eq_true_eq] at h
  exact z_in h.1 h.2
theorem z_vw {c : Nat} (hc : c < 12) : vwCl[c]? = some (z_cn c, z_Ts c, z_fn c) := by
  match c, hc with
  | 0, _ => rfl
  | 1, _ => rfl
  | 2, _ => rfl
  | 3, _ => rfl
  | 4, _ => rfl
  | 5, _ => rfl
  | 6, _ => rfl
  | 7, _ => rfl
  | 8, _ => rfl
  | 9, _ => rfl
  | 10, _ => rfl
  | 11, _ => rfl
def z_tyB (c : Nat) : Bool := (List.range (z_fn c)).all (fun k => decide (parseFieldDescriptor (z_Ts c k).2.2.1 = some (z_tyX c k)) && (List.range (z_fn c)).all (fun j => decide (k = j) || decide ((z_Ts c k).2.1 ≠ (z_Ts c j).2.1)) && (if (z_ref.getD c []).getD k false then refKind (z_tyX c k) else if (z_zbo.getD c []).getD k false then decide (z_tyX c k = .boolean) else decide (z_tyX c k = .int)))
theorem z_ty_a : (List.range 12).all z_tyB = true := by decide +kernel
theorem z_ty_ok {c k : Nat} (hc : c < 12) (hk : k < z_fn c) : parseFieldDescriptor (z_Ts c k).2.2.1 = some (z_tyX c k) ∧ (∀ j, j < z_fn c → k ≠ j → (z_Ts c k).2.1 ≠ (z_Ts c j).2.1) ∧ (if (z_ref.getD c []).getD k false then refKind (z_tyX c k) else if (z_zbo.getD c []).getD k false then decide (z_tyX c k = .boolean) else decide (z_tyX c k = .int)) = true := by
  have h := List.all_eq_true.mp (show z_tyB c = true from List.all_eq_true.mp z_ty_a c (List.mem_range.mpr hc)) k (List.mem_range.mpr hk)
  simp only [Bool.and_eq_true, decide_eq_true_eq] at h
  refine ⟨h.1.1, fun j hj hne => ?_, h.2⟩
  have h2 := List.all_eq_true.mp h.1.2 j (List.mem_range.mpr hj)
  simp only [Bool.or_eq_true, decide_eq_true_eq] at h2
  exact h2.resolve_left hne
/-- what the tables say of a method but its code -/
def z_yB1 (Y : Nat) : Bool := decide ((z_yy Y).cls = z_own (z_on.getD Y 0)) && decide ((z_yy Y).cls ≠ "java/lang/invoke/MethodHandle") && decide ((z_yy Y).cls ≠ "java/lang/invoke/VarHandle") && plainName (z_yy Y).cls && decide (z_mx Y ≤ 16)
def z_yB2 (Y : Nat) : Bool := if z_sta.getD Y false then decide ((parseMethodDescriptor (z_yy Y).desc).map (fun d => d.parameters.length) = some (z_na.getD Y 0)) else decide (1 ≤ z_na.getD Y 0) && decide ((parseMethodDescriptor (z_yy Y).desc).map (fun d => d.parameters.length) = some (z_na.getD Y 0 - 1)) && (if z_ini.getD Y false then decide ((z_yy Y).name = "<init>") && decide (z_rt Y = none) else if z_oc.getD Y 99 = 50 then decide ((z_yy Y).cls = "java/lang/String") else decide (z_oc.getD Y 99 < 12) && decide ((z_yy Y).cls = z_cn (z_oc.getD Y 99)))
def z_yB3 (Y : Nat) : Bool := decide (lw_tbl[z_pi.getD Y 0]? = some (Cond.initialized (z_yy Y).cls)) && (if z_sta.getD Y false then decide (lw_tbl[z_ps.getD Y 0]? = some (Cond.static (z_yy Y))) else decide (lw_tbl[z_ps.getD Y 0]? = some (Cond.instanceMethod (z_yy Y))) && (z_ini.getD Y false || decide (lw_tbl[z_pe.getD Y 0]? = some (Cond.selects (z_yy Y).cls (z_yy Y) (z_yy Y)))))
theorem z_y_1 : (List.range (216 - 1)).all z_yB1 = true := by decide +kernel
theorem z_y_2 : (List.range (216 - 1)).all z_yB2 = true := by decide +kernel
theorem z_y_3 : (List.range (216 - 1)).all z_yB3 = true := by decide +kernel
