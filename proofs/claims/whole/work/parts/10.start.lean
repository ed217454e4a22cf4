/-! ===== the start: the constants and what the Statement gives of them ===== -/
def ab_tm (i : Nat) : Term := match i with
  | 0 => .string "SeasonSeat$Reader" 226
  | 1 => .string "SeasonSeat$Reader" 67
  | 2 => .string "SeasonSeat$Reader" 73
  | 3 => .string "SeasonSeat$Reader" 91
  | 4 => .string "SeasonSeat$Reader" 121
  | 5 => .string "SeasonSeat$Reader" 130
  | 6 => .string "SeasonSeat$Reader" 141
  | 7 => .string "SeasonSeat$Reader" 142
  | 8 => .string "SeasonSeat$Reader" 100
  | 9 => .string "SeasonSeat$Reader" 200
  | 10 => .string "SeasonSeat$Reader" 175
  | 11 => .string "SeasonSeat$Reader" 184
  | 12 => .string "SeasonSeat$Reader" 186
  | 13 => .string "SeasonSeat$Reader" 188
  | 14 => .string "SeasonSeat$Reader" 205
  | 15 => .string "SeasonSeat$Reader" 207
  | 16 => .string "SeasonSeat$Reader" 209
  | 17 => .string "SeasonSeat$Reader" 211
  | 18 => .string "SeasonSeat$Reader" 213
  | 19 => .string "SeasonSeat$Reader" 198
  | 20 => .string "SeasonSeat$Reader" 193
  | 21 => .string "SeasonSeat$Reader" 109
  | _ => .string "SeasonSeatModel" 103
def ab_byt : List (List Int32) := [[59, 58, 43, 45, 42, 40, 41, 91, 93, 61, 60, 62], [116, 114, 97, 105, 110], [109, 111, 110, 116, 104], [114, 105, 100, 101, 114], [115, 101, 97, 115, 111, 110], [99, 108, 97, 115, 115], [119, 97, 114, 109], [108, 105, 107, 101, 115], [119, 97, 114, 109, 115], [110, 111, 116], [105, 102], [116, 104, 101, 110], [101, 108, 115, 101], [101, 110, 100], [119, 97, 114, 109, 116, 104], [115, 101, 97, 116], [98, 101, 115, 105, 100, 101], [104, 101, 97, 116], [115, 97, 109, 101], [97, 110, 100], [111, 114], [109, 97, 121], [32, 116, 114, 97, 105, 110, 32, 109, 111, 110, 116, 104, 32, 114, 105, 100, 101, 114, 32, 115, 101, 97, 115, 111, 110, 32, 99, 108, 97, 115, 115, 32, 119, 97, 114, 109, 32, 108, 105, 107, 101, 115, 32, 119, 97, 114, 109, 115, 32, 109, 97, 121, 32, 105, 102, 32, 116, 104, 101, 110, 32, 101, 108, 115, 101, 32, 101, 110, 100, 32, 119, 97, 114, 109, 116, 104, 32, 115, 101, 97, 116, 32, 98, 101, 115, 105, 100, 101, 32, 104, 101, 97, 116, 32, 115, 97, 109, 101, 32, 97, 110, 100, 32, 111, 114, 32, 110, 111, 116, 32]]
def ab_len : List Nat := [12, 5, 5, 5, 6, 5, 4, 5, 5, 3, 2, 4, 4, 3, 6, 4, 6, 4, 4, 3, 2, 3, 110]
def ab_b0 : Nat → Int32 := fun j => (ab_byt.getD 0 []).getD j 0
def ab_b1 : Nat → Int32 := fun j => (ab_byt.getD 1 []).getD j 0
def ab_b2 : Nat → Int32 := fun j => (ab_byt.getD 2 []).getD j 0
def ab_b3 : Nat → Int32 := fun j => (ab_byt.getD 3 []).getD j 0
def ab_b4 : Nat → Int32 := fun j => (ab_byt.getD 4 []).getD j 0
def ab_b5 : Nat → Int32 := fun j => (ab_byt.getD 5 []).getD j 0
def ab_b6 : Nat → Int32 := fun j => (ab_byt.getD 6 []).getD j 0
def ab_b7 : Nat → Int32 := fun j => (ab_byt.getD 7 []).getD j 0
def ab_b8 : Nat → Int32 := fun j => (ab_byt.getD 8 []).getD j 0
def ab_b9 : Nat → Int32 := fun j => (ab_byt.getD 9 []).getD j 0
def ab_b10 : Nat → Int32 := fun j => (ab_byt.getD 10 []).getD j 0
def ab_b11 : Nat → Int32 := fun j => (ab_byt.getD 11 []).getD j 0
def ab_b12 : Nat → Int32 := fun j => (ab_byt.getD 12 []).getD j 0
def ab_b13 : Nat → Int32 := fun j => (ab_byt.getD 13 []).getD j 0
def ab_b14 : Nat → Int32 := fun j => (ab_byt.getD 14 []).getD j 0
def ab_b15 : Nat → Int32 := fun j => (ab_byt.getD 15 []).getD j 0
def ab_b16 : Nat → Int32 := fun j => (ab_byt.getD 16 []).getD j 0
def ab_b17 : Nat → Int32 := fun j => (ab_byt.getD 17 []).getD j 0
def ab_b18 : Nat → Int32 := fun j => (ab_byt.getD 18 []).getD j 0
def ab_b19 : Nat → Int32 := fun j => (ab_byt.getD 19 []).getD j 0
def ab_b20 : Nat → Int32 := fun j => (ab_byt.getD 20 []).getD j 0
def ab_b21 : Nat → Int32 := fun j => (ab_byt.getD 21 []).getD j 0
def ab_b22 : Nat → Int32 := fun j => (ab_byt.getD 22 []).getD j 0
def ab_pw : Nat → Int32 := fun j => ([1, 5, 25, 125, 625] : List Int32).getD j 0
def ab_fc : Nat → Int32 := fun j => ([1, 1, 2, 6, 24] : List Int32).getD j 0
def ab_kk (L : Nat) (xs : Nat → Int32) : List ab_E := [.inr (14, [.ref 23, .int 0]), .inr (14, [.ref 24, .int 0]), .inr (14, [.ref 25, .int 0]), .inr (14, [.ref 26, .int 0]), .inr (14, [.ref 27, .int 0]), .inr (14, [.ref 28, .int 0]), .inr (14, [.ref 29, .int 0]), .inr (14, [.ref 30, .int 0]), .inr (14, [.ref 31, .int 0]), .inr (14, [.ref 32, .int 0]), .inr (14, [.ref 33, .int 0]), .inr (14, [.ref 34, .int 0]), .inr (14, [.ref 35, .int 0]), .inr (14, [.ref 36, .int 0]), .inr (14, [.ref 37, .int 0]), .inr (14, [.ref 38, .int 0]), .inr (14, [.ref 39, .int 0]), .inr (14, [.ref 40, .int 0]), .inr (14, [.ref 41, .int 0]), .inr (14, [.ref 42, .int 0]), .inr (14, [.ref 43, .int 0]), .inr (14, [.ref 44, .int 0]), .inr (14, [.ref 45, .int 0]), .inl (.byte, 12, .inl ab_b0), .inl (.byte, 5, .inl ab_b1), .inl (.byte, 5, .inl ab_b2), .inl (.byte, 5, .inl ab_b3), .inl (.byte, 6, .inl ab_b4), .inl (.byte, 5, .inl ab_b5), .inl (.byte, 4, .inl ab_b6), .inl (.byte, 5, .inl ab_b7), .inl (.byte, 5, .inl ab_b8), .inl (.byte, 3, .inl ab_b9), .inl (.byte, 2, .inl ab_b10), .inl (.byte, 4, .inl ab_b11), .inl (.byte, 4, .inl ab_b12), .inl (.byte, 3, .inl ab_b13), .inl (.byte, 6, .inl ab_b14), .inl (.byte, 4, .inl ab_b15), .inl (.byte, 6, .inl ab_b16), .inl (.byte, 4, .inl ab_b17), .inl (.byte, 4, .inl ab_b18), .inl (.byte, 3, .inl ab_b19), .inl (.byte, 2, .inl ab_b20), .inl (.byte, 3, .inl ab_b21), .inl (.byte, 110, .inl ab_b22), .inl (.int, 5, .inl ab_pw), .inl (.int, 5, .inl ab_fc), .inl (.int, L, .inl xs), .inr (15, [])]
def ab_w0 (L : Nat) (xs : Nat → Int32) : ab_H := (ab_kk L xs, 0)
/-- a premise by its path: 1 to the right, 0 to the left, lowest bit first, a last 1 -/
def ab_pt : Nat → Cond → Nat → Cond
  | 0, T, _ => T
  | f + 1, T, n => if n ≤ 1 then T else match T with
    | .and a b => ab_pt f (if n % 2 = 1 then b else a) (n / 2)
    | c => c
theorem ab_ptB {args : Array Value} {s : State} : ∀ (f : Nat) (T : Cond) (n : Nat), T.before args s = true → (ab_pt f T n).before args s = true
  | 0, T, n, h => h
  | f + 1, T, n, h => by
    unfold ab_pt
    split
    · exact h
    · split
      · rename_i a b
        rw [Cond.before_and, Bool.and_eq_true] at h
        split
        · exact ab_ptB f b _ h.2
        · exact ab_ptB f a _ h.1
      · exact h
abbrev ab_gv : Cond := Jvm.Cond.and given_1 narrow_1
def ab_q1 : List Nat := [1585, 3825, 1673, 1481, 4009, 1305, 2777, 4025, 3845, 1573, 3813, 1365, 1653, 1101, 1133, 2909, 1277, 1059, 3859, 1139, 1227, 1051, 1467]
def ab_q2 : List Nat := [1329, 1521, 1417, 3017, 1129, 2841, 3801, 1145, 1157, 1317, 1509, 2901, 1397, 1613, 1645, 3933, 2813, 1571, 1171, 1651, 1739, 1563, 3003]
def ab_q3 : List Nat := [2865, 3057, 2953, 4041, 1641, 3865, 1497, 1657, 1669, 2853, 3045, 3925, 2933, 1357, 1389, 1245, 3837, 1315, 1683, 1395, 1483, 1307, 4027]
def ab_q4 : List Nat := [3889, 4081, 3977, 1065, 1385, 1177, 3033, 1401, 1413, 3877, 4069, 1237, 3957, 2893, 2925, 2781, 1533, 2851, 1427, 2931, 3019, 2843, 1147]
def ab_q5 : List (List Nat) := [[1201, 1713, 1457, 2993, 4017, 1137, 1649, 1393, 2929, 3953, 1265, 2801], [1033, 1545, 1289, 2825, 3849], [1097, 1609, 1353, 2889, 3913], [1577, 1321, 2857, 3881, 1193], [2921, 3945, 1257, 2793, 3817, 1513], [1689, 1433, 2969, 3993, 1113], [4057, 1081, 1593, 1337], [2937, 3961, 1273, 2809, 3833], [2949, 3973, 1093, 1605, 1349], [1189, 1701, 1445], [1045, 1557], [1749, 1493, 3029, 4053], [1269, 2805, 3829, 1525], [3917, 1229, 1741], [3949, 1261, 2797, 3821, 1517, 3053], [3805, 1501, 3037, 4061], [3069, 4093, 1027, 1539, 1283, 2819], [3875, 1187, 1699, 1443], [2963, 3987, 1107, 1619], [3955, 1267, 2803], [4043, 1067], [3867, 1179, 1691], [1659, 1403, 2939, 3963, 1275, 2811, 3835, 1531, 3067, 4091, 1031, 1543, 1287, 2823, 3847, 1159, 1671, 1415, 2951, 3975, 1095, 1607, 1351, 2887, 3911, 1223, 1735, 1479, 3015, 4039, 1063, 1575, 1319, 2855, 3879, 1191, 1703, 1447, 2983, 4007, 1127, 1639, 1383, 2919, 3943, 1255, 2791, 3815, 1511, 3047, 4071, 1047, 1559, 1303, 2839, 3863, 1175, 1687, 1431, 2967, 3991, 1111, 1623, 1367, 2903, 3927, 1239, 1751, 1495, 3031, 4055, 1079, 1591, 1335, 2871, 3895, 1207, 1719, 1463, 2999, 4023, 1143, 1655, 1399, 2935, 3959, 1271, 2807, 3831, 1527, 3063, 4087, 1039, 1551, 1295, 2831, 3855, 1167, 1679, 1423, 2959, 3983, 1103, 1615, 1359, 2895, 3919, 1231, 1743, 1487]]
def ab_q6 : List (List Nat) := [[0, 1161, 1225, 1705, 3049, 1625, 2873, 1529, 2885, 2981, 1301, 1077, 3061, 1485, 4077, 1085, 3843, 2979, 1363, 3827, 1579, 1435, 3023], [0, 0, 1737, 1449, 4073, 1369, 3897, 3065, 3909, 4005, 2837, 1589, 4085, 3021, 1053, 1597, 1155, 4003, 2899, 1523, 1323, 2971, 4047], [0, 0, 0, 2985, 1049, 2905, 1209, 4089, 1221, 1125, 3861, 1333, 1037, 4045, 1565, 1341, 1667, 1123, 3923, 3059, 2859, 3995, 1071], [0, 0, 0, 0, 1561, 3929, 1721, 1029, 1733, 1637, 1173, 2869, 1549, 1069, 1309, 2877, 1411, 1635, 1235, 4083, 3883, 1115, 1583], [0, 0, 0, 0, 0, 1241, 1465, 1541, 1477, 1381, 1685, 3893, 1293, 1581, 2845, 3901, 2947, 1379, 1747, 1035, 1195, 1627, 1327], [0, 0, 0, 0, 0, 0, 3001, 1285, 3013, 2917, 1429, 1205, 2829, 1325, 3869, 1213, 3971, 2915, 1491, 1547, 1707, 1371, 2863], [0, 0, 0, 0, 0, 0, 0, 2821, 4037, 3941, 2965, 1717, 3853, 2861, 1181, 1725, 1091, 3939, 3027, 1291, 1451, 2907, 3887], [0, 0, 0, 0, 0, 0, 0, 0, 1061, 1253, 3989, 1461, 1165, 3885, 1693, 1469, 1603, 1251, 4051, 2827, 2987, 3931, 1199], [0, 0, 0, 0, 0, 0, 0, 0, 0, 2789, 1109, 2997, 1677, 1197, 1437, 3005, 1347, 2787, 1075, 3851, 4011, 1243, 1711], [0, 0, 0, 0, 0, 0, 0, 0, 0, 0, 1621, 4021, 1421, 1709, 2973, 4029, 2883, 3811, 1587, 1163, 1131, 2779, 1455], [0, 0, 0, 0, 0, 0, 0, 0, 0, 0, 0, 1141, 2957, 1453, 3997, 1149, 3907, 1507, 1331, 1675, 1643, 3803, 2991], [0, 0, 0, 0, 0, 0, 0, 0, 0, 0, 0, 0, 3981, 2989, 1117, 1661, 1219, 3043, 2867, 1419, 1387, 1499, 4015], [0, 0, 0, 0, 0, 0, 0, 0, 0, 0, 0, 0, 0, 4013, 1629, 1405, 1731, 4067, 3891, 2955, 2923, 3035, 1135], [0, 0, 0, 0, 0, 0, 0, 0, 0, 0, 0, 0, 0, 0, 1373, 2941, 1475, 1043, 1203, 3979, 3947, 4059, 1647], [0, 0, 0, 0, 0, 0, 0, 0, 0, 0, 0, 0, 0, 0, 0, 3965, 3011, 1555, 1715, 1099, 1259, 1083, 1391], [0, 0, 0, 0, 0, 0, 0, 0, 0, 0, 0, 0, 0, 0, 0, 0, 4035, 1299, 1459, 1611, 2795, 1595, 2927], [0, 0, 0, 0, 0, 0, 0, 0, 0, 0, 0, 0, 0, 0, 0, 0, 0, 2835, 2995, 1355, 3819, 1339, 3951], [0, 0, 0, 0, 0, 0, 0, 0, 0, 0, 0, 0, 0, 0, 0, 0, 0, 0, 4019, 2891, 1515, 2875, 1263], [0, 0, 0, 0, 0, 0, 0, 0, 0, 0, 0, 0, 0, 0, 0, 0, 0, 0, 0, 3915, 3051, 3899, 2799], [0, 0, 0, 0, 0, 0, 0, 0, 0, 0, 0, 0, 0, 0, 0, 0, 0, 0, 0, 0, 4075, 1211, 3823], [0, 0, 0, 0, 0, 0, 0, 0, 0, 0, 0, 0, 0, 0, 0, 0, 0, 0, 0, 0, 0, 1723, 1519], [0, 0, 0, 0, 0, 0, 0, 0, 0, 0, 0, 0, 0, 0, 0, 0, 0, 0, 0, 0, 0, 0, 3055], [0, 0, 0, 0, 0, 0, 0, 0, 0, 0, 0, 0, 0, 0, 0, 0, 0, 0, 0, 0, 0, 0, 0]]
set_option maxRecDepth 100000 in
theorem ab_f1 : ∀ i, i < 23 → ab_pt 12 ab_gv (ab_q1.getD i 0) = Cond.exactly (ab_tm i) "java/lang/String" := by decide +kernel
set_option maxRecDepth 100000 in
theorem ab_f2 : ∀ i, i < 23 → ab_pt 12 ab_gv (ab_q2.getD i 0) = Cond.eq (.field (ab_tm i) "java/lang/String" "coder" "B") (.int 0) := by decide +kernel
set_option maxRecDepth 100000 in
theorem ab_f3 : ∀ i, i < 23 → ab_pt 12 ab_gv (ab_q3.getD i 0) = Cond.arrayOf (.field (ab_tm i) "java/lang/String" "value" "[B") .byte := by decide +kernel
set_option maxRecDepth 100000 in
theorem ab_f4 : ∀ i, i < 23 → ab_pt 12 ab_gv (ab_q4.getD i 0) = Cond.eq (.length (.field (ab_tm i) "java/lang/String" "value" "[B")) (.int (Int32.ofNat (ab_len.getD i 0))) := by decide +kernel
set_option maxRecDepth 100000 in
theorem ab_f5 : ∀ i, i < 23 → ∀ j, j < ab_len.getD i 0 → ab_pt 12 ab_gv ((ab_q5.getD i []).getD j 0) = Cond.eq (.elem (.field (ab_tm i) "java/lang/String" "value" "[B") (.int (Int32.ofNat j))) (.int ((ab_byt.getD i []).getD j 0)) := by decide +kernel
set_option maxRecDepth 100000 in
theorem ab_f6 : ∀ i, i < 23 → ∀ j, j < 23 → i ≠ j → ab_pt 12 ab_gv ((ab_q6.getD i []).getD j 0) = Cond.not (Cond.eq (ab_tm i) (ab_tm j)) ∨ ab_pt 12 ab_gv ((ab_q6.getD j []).getD i 0) = Cond.not (Cond.eq (ab_tm j) (ab_tm i)) := by decide +kernel
theorem ab_f7 : ∀ i, i < 23 → ab_len.getD i 0 < 2 ^ 31 := by decide +kernel
def ab_pwq : List Nat := [1153, 1665, 1409, 2945, 3969]
set_option maxRecDepth 100000 in
theorem ab_pw1 : ab_pt 12 ab_gv 2817 = Cond.arrayOf (.static "SeasonSeat" "POWERS" "[I") .int ∧ ab_pt 12 ab_gv 3841 = Cond.eq (.length (.static "SeasonSeat" "POWERS" "[I")) (.int 5) ∧ ∀ j, j < 5 → ab_pt 12 ab_gv (ab_pwq.getD j 0) = Cond.eq (.elem (.static "SeasonSeat" "POWERS" "[I") (.int (Int32.ofNat j))) (.int (ab_pw j)) := by decide +kernel
def ab_fcq : List Nat := [2881, 3905, 1217, 1729, 1473]
set_option maxRecDepth 100000 in
theorem ab_fc1 : ab_pt 12 ab_gv 1601 = Cond.arrayOf (.static "SeasonSeat" "FACTORIALS" "[I") .int ∧ ab_pt 12 ab_gv 1345 = Cond.eq (.length (.static "SeasonSeat" "FACTORIALS" "[I")) (.int 5) ∧ ∀ j, j < 5 → ab_pt 12 ab_gv (ab_fcq.getD j 0) = Cond.eq (.elem (.static "SeasonSeat" "FACTORIALS" "[I") (.int (Int32.ofNat j))) (.int (ab_fc j)) := by decide +kernel
set_option maxRecDepth 100000 in
theorem ab_g1 : ab_pt 12 ab_gv 3009 = Cond.eq (.static "java/lang/String" "COMPACT_STRINGS" "Z") (.int 1) ∧ ab_pt 12 ab_gv 4033 = Cond.isRef (.static "jdk/internal/util/Preconditions" "SIOOBE_FORMATTER" "Ljava/util/function/BiFunction;") ∧ ab_pt 12 ab_gv 1247 = Cond.eq (.string "SeasonSeat$Reader" 226) (.string "SeasonSeatModel" 141) := by decide +kernel
theorem ab_g2a : ∀ q ∈ ab_str, Cond.stringRef q.1 q.2.1 q.2.2.1 ∈ tables_1 := List.forall_mem_cons.mpr ⟨List.mem_of_getElem? (i := 405) (by decide +kernel), List.forall_mem_cons.mpr ⟨List.mem_of_getElem? (i := 490) (by decide +kernel), List.forall_mem_cons.mpr ⟨List.mem_of_getElem? (i := 524) (by decide +kernel), List.forall_mem_cons.mpr ⟨List.mem_of_getElem? (i := 541) (by decide +kernel), List.forall_mem_cons.mpr ⟨List.mem_of_getElem? (i := 546) (by decide +kernel), List.forall_mem_cons.mpr ⟨List.mem_of_getElem? (i := 550) (by decide +kernel), List.forall_mem_cons.mpr ⟨List.mem_of_getElem? (i := 558) (by decide +kernel), List.forall_mem_cons.mpr ⟨List.mem_of_getElem? (i := 559) (by decide +kernel), List.forall_mem_cons.mpr ⟨List.mem_of_getElem? (i := 560) (by decide +kernel), List.forall_mem_cons.mpr ⟨List.mem_of_getElem? (i := 577) (by decide +kernel), List.forall_mem_cons.mpr ⟨List.mem_of_getElem? (i := 602) (by decide +kernel), List.forall_mem_cons.mpr ⟨List.mem_of_getElem? (i := 607) (by decide +kernel), List.forall_mem_cons.mpr ⟨List.mem_of_getElem? (i := 608) (by decide +kernel), List.forall_mem_cons.mpr ⟨List.mem_of_getElem? (i := 609) (by decide +kernel), List.forall_mem_cons.mpr ⟨List.mem_of_getElem? (i := 614) (by decide +kernel), List.forall_mem_cons.mpr ⟨List.mem_of_getElem? (i := 615) (by decide +kernel), List.forall_mem_cons.mpr ⟨List.mem_of_getElem? (i := 616) (by decide +kernel), List.forall_mem_cons.mpr ⟨List.mem_of_getElem? (i := 617) (by decide +kernel), List.forall_mem_cons.mpr ⟨List.mem_of_getElem? (i := 618) (by decide +kernel), List.forall_mem_cons.mpr ⟨List.mem_of_getElem? (i := 619) (by decide +kernel), List.forall_mem_cons.mpr ⟨List.mem_of_getElem? (i := 620) (by decide +kernel), List.forall_mem_cons.mpr ⟨List.mem_of_getElem? (i := 635) (by decide +kernel), List.forall_mem_cons.mpr ⟨List.mem_of_getElem? (i := 1463) (by decide +kernel), List.forall_mem_cons.mpr ⟨List.mem_of_getElem? (i := 1469) (by decide +kernel), fun _ h => absurd h List.not_mem_nil⟩⟩⟩⟩⟩⟩⟩⟩⟩⟩⟩⟩⟩⟩⟩⟩⟩⟩⟩⟩⟩⟩⟩⟩
theorem ab_g2b : ∀ q ∈ ab_sts, Cond.laysStatic q.1 q.2.1 q.2.2.1 ∈ tables_1 ∧ Cond.initialized q.1 ∈ tables_1 := List.forall_mem_cons.mpr ⟨⟨List.mem_of_getElem? (i := 324) (by decide +kernel), List.mem_of_getElem? (i := 1) (by decide +kernel)⟩, List.forall_mem_cons.mpr ⟨⟨List.mem_of_getElem? (i := 326) (by decide +kernel), List.mem_of_getElem? (i := 1) (by decide +kernel)⟩, List.forall_mem_cons.mpr ⟨⟨List.mem_of_getElem? (i := 419) (by decide +kernel), List.mem_of_getElem? (i := 12) (by decide +kernel)⟩, fun _ h => absurd h List.not_mem_nil⟩⟩⟩
theorem ab_g2c : Cond.laysStatic "jdk/internal/util/Preconditions" "SIOOBE_FORMATTER" "Ljava/util/function/BiFunction;" ∈ tables_1 ∧ Cond.initialized "jdk/internal/util/Preconditions" ∈ tables_1 := ⟨List.mem_of_getElem? (i := 460) (by decide +kernel), List.mem_of_getElem? (i := 15) (by decide +kernel)⟩
theorem ab_g2d : ∀ C ∈ ab_ov, Cond.arrayOver (.object C) ∈ tables_1 := List.forall_mem_cons.mpr ⟨List.mem_of_getElem? (i := 138) (by decide +kernel), List.forall_mem_cons.mpr ⟨List.mem_of_getElem? (i := 139) (by decide +kernel), List.forall_mem_cons.mpr ⟨List.mem_of_getElem? (i := 124) (by decide +kernel), fun _ h => absurd h List.not_mem_nil⟩⟩⟩
theorem ab_g2e : ∀ ty ∈ [FieldType.int, .byte, .long, .boolean], Cond.arrayClass ty ∈ tables_1 := List.forall_mem_cons.mpr ⟨List.mem_of_getElem? (i := 89) (by decide +kernel), List.forall_mem_cons.mpr ⟨List.mem_of_getElem? (i := 88) (by decide +kernel), List.forall_mem_cons.mpr ⟨List.mem_of_getElem? (i := 318) (by decide +kernel), List.forall_mem_cons.mpr ⟨List.mem_of_getElem? (i := 1436) (by decide +kernel), fun _ h => absurd h List.not_mem_nil⟩⟩⟩⟩
theorem ab_g2 : (∀ q ∈ ab_str, Cond.stringRef q.1 q.2.1 q.2.2.1 ∈ tables_1) ∧ (∀ q ∈ ab_sts, Cond.laysStatic q.1 q.2.1 q.2.2.1 ∈ tables_1 ∧ Cond.initialized q.1 ∈ tables_1) ∧ (Cond.laysStatic "jdk/internal/util/Preconditions" "SIOOBE_FORMATTER" "Ljava/util/function/BiFunction;" ∈ tables_1 ∧ Cond.initialized "jdk/internal/util/Preconditions" ∈ tables_1) ∧ (∀ C ∈ ab_ov, Cond.arrayOver (.object C) ∈ tables_1) ∧ (∀ ty ∈ [FieldType.int, .byte, .long, .boolean], Cond.arrayClass ty ∈ tables_1) := ⟨ab_g2a, ab_g2b, ab_g2c, ab_g2d, ab_g2e⟩
theorem ab_g3 : ∀ ci, ci < 13 → ∃ n : Nat, Cond.instantiable ((ab_cl.map (fun q => q.1)).getD ci "") n ∈ tables_1 := by
  intro ci h
  match ci, h with
  | 0, _ => exact ⟨9, (List.mem_of_getElem? (i := 31) (by decide +kernel) : Cond.instantiable "SeasonSeat$Carriage" 9 ∈ tables_1)⟩
  | 1, _ => exact ⟨12, (List.mem_of_getElem? (i := 224) (by decide +kernel) : Cond.instantiable "SeasonSeat$Climate" 12 ∈ tables_1)⟩
  | 2, _ => exact ⟨9, (List.mem_of_getElem? (i := 1149) (by decide +kernel) : Cond.instantiable "SeasonSeat$Forcing" 9 ∈ tables_1)⟩
  | 3, _ => exact ⟨7, (List.mem_of_getElem? (i := 272) (by decide +kernel) : Cond.instantiable "SeasonSeat$Idling" 7 ∈ tables_1)⟩
  | 4, _ => exact ⟨3, (List.mem_of_getElem? (i := 118) (by decide +kernel) : Cond.instantiable "SeasonSeat$Past" 3 ∈ tables_1)⟩
  | 5, _ => exact ⟨13, (List.mem_of_getElem? (i := 141) (by decide +kernel) : Cond.instantiable "SeasonSeat$Reader" 13 ∈ tables_1)⟩
  | 6, _ => exact ⟨15, (List.mem_of_getElem? (i := 894) (by decide +kernel) : Cond.instantiable "SeasonSeat$Rows" 15 ∈ tables_1)⟩
  | 7, _ => exact ⟨4, (List.mem_of_getElem? (i := 191) (by decide +kernel) : Cond.instantiable "SeasonSeat$Seatings" 4 ∈ tables_1)⟩
  | 8, _ => exact ⟨5, (List.mem_of_getElem? (i := 91) (by decide +kernel) : Cond.instantiable "SeasonSeat$Stand" 5 ∈ tables_1)⟩
  | 9, _ => exact ⟨5, (List.mem_of_getElem? (i := 1060) (by decide +kernel) : Cond.instantiable "SeasonSeat$Trading" 5 ∈ tables_1)⟩
  | 10, _ => exact ⟨3, (List.mem_of_getElem? (i := 302) (by decide +kernel) : Cond.instantiable "SeasonSeat$Tray" 3 ∈ tables_1)⟩
  | 11, _ => exact ⟨17, (List.mem_of_getElem? (i := 23) (by decide +kernel) : Cond.instantiable "SeasonSeat" 17 ∈ tables_1)⟩
  | 12, _ => exact ⟨45, (List.mem_of_getElem? (i := 1290) (by decide +kernel) : Cond.instantiable "SeasonSeatModel" 45 ∈ tables_1)⟩
/-- every text of the table is one of the 23 -/
theorem ab_g4 : ∀ q ∈ ab_str, q.2.2.2 < 23 ∧ (ab_tm q.2.2.2 = .string q.1 q.2.1 ∨ (q.1 = "SeasonSeatModel" ∧ q.2.1 = 141 ∧ q.2.2.2 = 0)) := by decide +kernel
theorem ab_start {p : Program} {s : State} {m : MethodId} {meth : Method} {c : Code} (l : Launch) {b L : Nat} {xs : Nat → Int32} (hL : L ≤ 3072) (C0 : lw_At p s m meth c b L xs) : ∃ G : ab_G, G.1 = l ∧ G.2.1 = s.heap.size ∧ G.2.2.2.2 48 = b ∧ ab_At G ((ab_w0 L xs).1.take 50) s ∧ ab_R G (ab_w0 L xs) s.heap := by
  obtain ⟨hx, hcd, hr, hml, hown, hts, hX, hbl, hlocks, hgv⟩ := C0
  have hpt : ∀ {w : Cond} {n : Nat}, ab_pt 12 ab_gv n = w → w.before #[Value.ref b] s = true := fun h => h ▸ ab_ptB 12 _ _ hgv
  have htb : ∀ w ∈ tables_1, w.before #[Value.ref b] s = true := fun w hw => hts w (List.mem_append_right _ hw)
  have hA : ∀ a : Nat, a < s.heap.size → ¬ (fun q : Nat => s.heap.size ≤ q) a := fun a h => Nat.not_le.mpr h
  obtain ⟨adK, adV, hStr, hev⟩ := vk_Sof (args := #[Value.ref b]) (s := s) (N := 23) (tm := ab_tm) (len := ab_len) (byt := ab_byt) (A := fun q : Nat => s.heap.size ≤ q) ab_f7 (fun i hi => hpt (ab_f1 i hi)) (fun i hi => hpt (ab_f2 i hi)) (fun i hi => hpt (ab_f3 i hi)) (fun i hi => hpt (ab_f4 i hi)) (fun i hi j hj => hpt (ab_f5 i hi j hj)) (fun i j hi hj hij => (ab_f6 i hi j hj hij).elim (fun h => Or.inl (hpt h)) (fun h => Or.inr (hpt h))) hA
  obtain ⟨pw, hpe, hpT⟩ := va_Tof (args := #[Value.ref b]) (s := s) (tm := .static "SeasonSeat" "POWERS" "[I") (ty := .int) (N := 5) (f := fun j => .int (ab_pw j)) (A := fun q : Nat => s.heap.size ≤ q) (by decide) (hpt ab_pw1.1) (va_eqt (hpt ab_pw1.2.1)) (fun j hj => va_eqt (hpt (ab_pw1.2.2 j hj))) hA
  obtain ⟨fc, hfe, hfT⟩ := va_Tof (args := #[Value.ref b]) (s := s) (tm := .static "SeasonSeat" "FACTORIALS" "[I") (ty := .int) (N := 5) (f := fun j => .int (ab_fc j)) (A := fun q : Nat => s.heap.size ≤ q) (by decide) (hpt ab_fc1.1) (va_eqt (hpt ab_fc1.2.1)) (fun j hj => va_eqt (hpt (ab_fc1.2.2 j hj))) hA
  have hZpw := va_Zof (A := fun q : Nat => s.heap.size ≤ q) (htb _ (ab_g2.2.1 _ (by decide : ("SeasonSeat", "POWERS", "[I", Value.ref 46) ∈ ab_sts)).1) (htb _ (ab_g2.2.1 _ (by decide : ("SeasonSeat", "POWERS", "[I", Value.ref 46) ∈ ab_sts)).2) hpe hA
  have hZfc := va_Zof (A := fun q : Nat => s.heap.size ≤ q) (htb _ (ab_g2.2.1 _ (by decide : ("SeasonSeat", "FACTORIALS", "[I", Value.ref 47) ∈ ab_sts)).1) (htb _ (ab_g2.2.1 _ (by decide : ("SeasonSeat", "FACTORIALS", "[I", Value.ref 47) ∈ ab_sts)).2) hfe hA
  have hZcs := va_Zof (A := fun q : Nat => s.heap.size ≤ q) (htb _ (ab_g2.2.1 _ (by decide : ("java/lang/String", "COMPACT_STRINGS", "Z", Value.int 1) ∈ ab_sts)).1) (htb _ (ab_g2.2.1 _ (by decide : ("java/lang/String", "COMPACT_STRINGS", "Z", Value.int 1) ∈ ab_sts)).2) (va_eqi (hpt ab_g1.1)) hA
  have hFm := va_Zqof (A := fun q : Nat => s.heap.size ≤ q) (htb _ ab_g2.2.2.1.1) (htb _ ab_g2.2.2.1.2) (hpt ab_g1.2.1) hA
  have hFm2 : ∃ fm : Nat, va_Z "jdk/internal/util/Preconditions" "SIOOBE_FORMATTER" "Ljava/util/function/BiFunction;" .null (fun q : Nat => s.heap.size ≤ q) s s.heap ∨ va_Z "jdk/internal/util/Preconditions" "SIOOBE_FORMATTER" "Ljava/util/function/BiFunction;" (.ref fm) (fun q : Nat => s.heap.size ≤ q) s s.heap :=
    hFm.elim (fun h => ⟨0, Or.inl h⟩) (fun ⟨t, h⟩ => ⟨t, Or.inr h⟩)
  obtain ⟨fm, hFm2⟩ := hFm2
  have hKn : ∀ ci : Nat, ∃ q : ClassId × (Nat → Nat), ∀ (C : String) (T : u_T) (N : Nat), ab_cl[ci]? = some (C, T, N) → u_Kn s C T N q.1 q.2 := by
    intro ci
    by_cases h : ∃ C T N, ab_cl[ci]? = some (C, T, N)
    · obtain ⟨C, T, N, hc⟩ := h
      have hlt : ci < 13 := (List.getElem?_eq_some_iff.mp hc).1
      obtain ⟨n, hn⟩ := ab_g3 ci hlt
      have hC : (ab_cl.map (fun q => q.1)).getD ci "" = C := by
        rw [List.getD_eq_getElem?_getD, List.getElem?_map, hc]; rfl
      rw [hC] at hn
      obtain ⟨cC, iS, hk⟩ := u_known (ws := lw_tbl) hts (fun w hw => (List.mem_filter.mp ((ab_ck hc).2.2 w hw)).1) (htb _ hn)
      exact ⟨(cC, iS), fun C' T' N' h' => by
        have := hc.symm.trans h'
        cases this
        exact hk⟩
    · exact ⟨(0, fun _ => 0), fun C T N hc => absurd ⟨C, T, N, hc⟩ h⟩
  obtain ⟨dd, hdd⟩ := Classical.axiomOfChoice hKn
  have hAr : ∀ ty : FieldType, ∃ cA : ClassId, ty ∈ ab_tl → ArrOfT s cA ty ∧ va_RA s cA ty := by
    intro ty
    by_cases h : ty ∈ ab_tl
    · have hprim : ∀ ty', (Cond.arrayClass ty').before #[Value.ref b] s = true → ∃ cA : ClassId, ArrOfT s cA ty' ∧ s.vm.findClass ("[" ++ ty'.toString) = some cA := by
        intro ty' h'
        obtain ⟨cA, kA, comp, h1, h2, h3⟩ := Cond.arrayClass_spec h'
        exact ⟨cA, fun n z => ⟨fun k h => (by cases h), kA, h2, comp, h3⟩, h1⟩
      have hobj : ∀ C : String, (Cond.arrayOver (.object C)).before #[Value.ref b] s = true → ∃ cA : ClassId, ArrOfT s cA (.object C) ∧ va_RA s cA (.object C) := by
        intro C h'
        obtain ⟨comp, cA, kA, f4, -, f2, f3, f1⟩ := Cond.arrayOver_spec h'
        exact ⟨cA, fun N z => ⟨(fun k h => by cases h), kA, f2, comp, f3⟩, kA, comp, f2, f3, f4, f1⟩
      simp only [ab_tl, List.mem_cons, List.not_mem_nil, or_false] at h
      rcases h with rfl | rfl | rfl | rfl | rfl | rfl | rfl
      · obtain ⟨cA, h1, h2⟩ := hprim _ (htb _ (ab_g2.2.2.2.2 _ (by decide : FieldType.int ∈ [FieldType.int, .byte, .long, .boolean])))
        exact ⟨cA, fun _ => ⟨h1, h2⟩⟩
      · obtain ⟨cA, h1, h2⟩ := hprim _ (htb _ (ab_g2.2.2.2.2 _ (by decide : FieldType.byte ∈ [FieldType.int, .byte, .long, .boolean])))
        exact ⟨cA, fun _ => ⟨h1, h2⟩⟩
      · obtain ⟨cA, h1, h2⟩ := hprim _ (htb _ (ab_g2.2.2.2.2 _ (by decide : FieldType.long ∈ [FieldType.int, .byte, .long, .boolean])))
        exact ⟨cA, fun _ => ⟨h1, h2⟩⟩
      · obtain ⟨cA, h1, h2⟩ := hprim _ (htb _ (ab_g2.2.2.2.2 _ (by decide : FieldType.boolean ∈ [FieldType.int, .byte, .long, .boolean])))
        exact ⟨cA, fun _ => ⟨h1, h2⟩⟩
      · obtain ⟨cA, h1⟩ := hobj _ (htb _ (ab_g2.2.2.2.1 _ (by decide : "SeasonSeat$Tray" ∈ ab_ov)))
        exact ⟨cA, fun _ => h1⟩
      · obtain ⟨cA, h1⟩ := hobj _ (htb _ (ab_g2.2.2.2.1 _ (by decide : "SeasonSeat$Carriage" ∈ ab_ov)))
        exact ⟨cA, fun _ => h1⟩
      · obtain ⟨cA, h1⟩ := hobj _ (htb _ (ab_g2.2.2.2.1 _ (by decide : "SeasonSeat$Stand" ∈ ab_ov)))
        exact ⟨cA, fun _ => h1⟩
    · exact ⟨0, fun h' => absurd h' h⟩
  obtain ⟨kt, hkt⟩ := Classical.axiomOfChoice hAr
  refine ⟨(l, s.heap.size, (fun ci => (dd ci).1, fun ci => (dd ci).2), kt, fun i => if i < 23 then adK i else if i < 46 then adV (i - 23) else if i = 46 then pw else if i = 47 then fc else if i = 48 then b else fm), rfl, rfl, rfl, ⟨Nat.le_refl _, ⟨fun ci q hq => hdd ci q.1 q.2.1 q.2.2 hq, fun k q hk => ?_⟩, fun w hw => ?_, fun q hq => ?_, fun q hq => ?_, fun i e hi he => ?_, fun C hC => va_AO.of (htb _ (ab_g2.2.2.2.1 C hC)), hFm2⟩, ?_⟩
  · unfold ab_tys at hk
    rw [List.getElem?_map] at hk
    cases ht : ab_tl[k]? with
    | none => rw [ht] at hk; cases hk
    | some ty =>
      rw [ht] at hk
      cases hk
      exact hkt ty (List.mem_of_getElem? ht)
  · have h1 := htb w (List.mem_filter.mp hw).1
    have h2 := ab_nest_is hw
    unfold ab_isNest at h2
    split at h2
    · exact va_Nw.of rfl h1
    · exact va_Nw.of rfl h1
    · cases h2
  · simp only [ab_sts, List.mem_cons, List.not_mem_nil, or_false] at hq
    rcases hq with rfl | rfl | rfl
    · exact hZpw
    · exact hZfc
    · exact hZcs
  · have h1 := htb _ (ab_g2.1 q hq)
    obtain ⟨h2, h3⟩ := ab_g4 q hq
    show vk_R q.1 q.2.1 q.2.2.1 (if q.2.2.2 < 23 then adK q.2.2.2 else _) s
    rw [if_pos h2]
    have he0 : (Term.string q.1 q.2.1).eval #[Value.ref b] s none [] s = some (.ref (adK q.2.2.2)) := by
      rcases h3 with h3 | ⟨h4, h5, h6⟩
      · rw [← h3]; exact hev _ h2
      · rw [h4, h5, h6]
        exact va_eqR (hpt ab_g1.2.2) (hev 0 (by decide))
    exact vk_R.of h1 he0

  · have he2 : (ab_kk L xs)[i]? = some e := by rw [← he, List.getElem?_take_of_lt hi]; rfl
    match i, hi with
    | 0, _ => cases he2; exact ⟨(hStr.1 0 (by decide)).1, (hStr.1 0 (by decide)).2.2.1, (hStr.1 0 (by decide)).2.1⟩
    | 1, _ => cases he2; exact ⟨(hStr.1 1 (by decide)).1, (hStr.1 1 (by decide)).2.2.1, (hStr.1 1 (by decide)).2.1⟩
    | 2, _ => cases he2; exact ⟨(hStr.1 2 (by decide)).1, (hStr.1 2 (by decide)).2.2.1, (hStr.1 2 (by decide)).2.1⟩
    | 3, _ => cases he2; exact ⟨(hStr.1 3 (by decide)).1, (hStr.1 3 (by decide)).2.2.1, (hStr.1 3 (by decide)).2.1⟩
    | 4, _ => cases he2; exact ⟨(hStr.1 4 (by decide)).1, (hStr.1 4 (by decide)).2.2.1, (hStr.1 4 (by decide)).2.1⟩
    | 5, _ => cases he2; exact ⟨(hStr.1 5 (by decide)).1, (hStr.1 5 (by decide)).2.2.1, (hStr.1 5 (by decide)).2.1⟩
    | 6, _ => cases he2; exact ⟨(hStr.1 6 (by decide)).1, (hStr.1 6 (by decide)).2.2.1, (hStr.1 6 (by decide)).2.1⟩
    | 7, _ => cases he2; exact ⟨(hStr.1 7 (by decide)).1, (hStr.1 7 (by decide)).2.2.1, (hStr.1 7 (by decide)).2.1⟩
    | 8, _ => cases he2; exact ⟨(hStr.1 8 (by decide)).1, (hStr.1 8 (by decide)).2.2.1, (hStr.1 8 (by decide)).2.1⟩
    | 9, _ => cases he2; exact ⟨(hStr.1 9 (by decide)).1, (hStr.1 9 (by decide)).2.2.1, (hStr.1 9 (by decide)).2.1⟩
    | 10, _ => cases he2; exact ⟨(hStr.1 10 (by decide)).1, (hStr.1 10 (by decide)).2.2.1, (hStr.1 10 (by decide)).2.1⟩
    | 11, _ => cases he2; exact ⟨(hStr.1 11 (by decide)).1, (hStr.1 11 (by decide)).2.2.1, (hStr.1 11 (by decide)).2.1⟩
    | 12, _ => cases he2; exact ⟨(hStr.1 12 (by decide)).1, (hStr.1 12 (by decide)).2.2.1, (hStr.1 12 (by decide)).2.1⟩
    | 13, _ => cases he2; exact ⟨(hStr.1 13 (by decide)).1, (hStr.1 13 (by decide)).2.2.1, (hStr.1 13 (by decide)).2.1⟩
    | 14, _ => cases he2; exact ⟨(hStr.1 14 (by decide)).1, (hStr.1 14 (by decide)).2.2.1, (hStr.1 14 (by decide)).2.1⟩
    | 15, _ => cases he2; exact ⟨(hStr.1 15 (by decide)).1, (hStr.1 15 (by decide)).2.2.1, (hStr.1 15 (by decide)).2.1⟩
    | 16, _ => cases he2; exact ⟨(hStr.1 16 (by decide)).1, (hStr.1 16 (by decide)).2.2.1, (hStr.1 16 (by decide)).2.1⟩
    | 17, _ => cases he2; exact ⟨(hStr.1 17 (by decide)).1, (hStr.1 17 (by decide)).2.2.1, (hStr.1 17 (by decide)).2.1⟩
    | 18, _ => cases he2; exact ⟨(hStr.1 18 (by decide)).1, (hStr.1 18 (by decide)).2.2.1, (hStr.1 18 (by decide)).2.1⟩
    | 19, _ => cases he2; exact ⟨(hStr.1 19 (by decide)).1, (hStr.1 19 (by decide)).2.2.1, (hStr.1 19 (by decide)).2.1⟩
    | 20, _ => cases he2; exact ⟨(hStr.1 20 (by decide)).1, (hStr.1 20 (by decide)).2.2.1, (hStr.1 20 (by decide)).2.1⟩
    | 21, _ => cases he2; exact ⟨(hStr.1 21 (by decide)).1, (hStr.1 21 (by decide)).2.2.1, (hStr.1 21 (by decide)).2.1⟩
    | 22, _ => cases he2; exact ⟨(hStr.1 22 (by decide)).1, (hStr.1 22 (by decide)).2.2.1, (hStr.1 22 (by decide)).2.1⟩
    | 23, _ => cases he2; exact (hStr.1 0 (by decide)).2.2.2
    | 24, _ => cases he2; exact (hStr.1 1 (by decide)).2.2.2
    | 25, _ => cases he2; exact (hStr.1 2 (by decide)).2.2.2
    | 26, _ => cases he2; exact (hStr.1 3 (by decide)).2.2.2
    | 27, _ => cases he2; exact (hStr.1 4 (by decide)).2.2.2
    | 28, _ => cases he2; exact (hStr.1 5 (by decide)).2.2.2
    | 29, _ => cases he2; exact (hStr.1 6 (by decide)).2.2.2
    | 30, _ => cases he2; exact (hStr.1 7 (by decide)).2.2.2
    | 31, _ => cases he2; exact (hStr.1 8 (by decide)).2.2.2
    | 32, _ => cases he2; exact (hStr.1 9 (by decide)).2.2.2
    | 33, _ => cases he2; exact (hStr.1 10 (by decide)).2.2.2
    | 34, _ => cases he2; exact (hStr.1 11 (by decide)).2.2.2
    | 35, _ => cases he2; exact (hStr.1 12 (by decide)).2.2.2
    | 36, _ => cases he2; exact (hStr.1 13 (by decide)).2.2.2
    | 37, _ => cases he2; exact (hStr.1 14 (by decide)).2.2.2
    | 38, _ => cases he2; exact (hStr.1 15 (by decide)).2.2.2
    | 39, _ => cases he2; exact (hStr.1 16 (by decide)).2.2.2
    | 40, _ => cases he2; exact (hStr.1 17 (by decide)).2.2.2
    | 41, _ => cases he2; exact (hStr.1 18 (by decide)).2.2.2
    | 42, _ => cases he2; exact (hStr.1 19 (by decide)).2.2.2
    | 43, _ => cases he2; exact (hStr.1 20 (by decide)).2.2.2
    | 44, _ => cases he2; exact (hStr.1 21 (by decide)).2.2.2
    | 45, _ => cases he2; exact (hStr.1 22 (by decide)).2.2.2
    | 46, _ => cases he2; exact hpT
    | 47, _ => cases he2; exact hfT
    | 48, _ =>
      cases he2
      obtain ⟨scr, h1, h2, h3, h4, h5⟩ := hX
      exact ⟨scr, h1, h2, h3, Nat.le_of_eq h4.symm, by rw [h4] <;> rfl, h5, Nat.not_le.mpr hbl⟩
    | 49, _ => cases he2; trivial
  · exact ⟨rfl, Nat.le_of_ble_eq_true rfl, fun k q h => by cases h⟩
/-- THE REST: from every script's start the law, in the judgement, comes to its end with 1, within the room -/
def ab_goal : Prop := ∀ (G : ab_G) (L : Nat) (xs : Nat → Int32), L ≤ 3072 → ab_Ex G 1000 ab_law 0 [some (.ref 48), none, none, none] [] (ab_w0 L xs) (ab_ok (ab_w0 L xs))
theorem ab_whole (hg : ab_goal) {p : Program} {e : Env} {s : State} {m : MethodId} {below : List Frame} {meth : Method} {c : Code} (l : Launch) {b L : Nat} {xs : Nat → Int32} (hL : L ≤ 3072) (C0 : lw_At p s m meth c b L xs) : W p l e room_1 s m #[Value.ref b] below meth c s.heap [] 0 0 (lw_Z below #[Value.ref b] s) (entryFrame m ([Value.ref b] : List Value).toArray 4) := by
  obtain ⟨G, g1, g2, g3, g4, g5⟩ := ab_start l hL C0
  have := ab_walk (e := e) (below := below) C0 g2 g3 g4 g5 (hg G L xs hL)
  rw [g1] at this
  exact this
