def am_posL : List (Nat × Nat × Nat × Nat) := [(605, 604, 92, 0), (449, 448, 92, 0), (536, 535, 92, 0), (502, 501, 92, 0), (493, 492, 92, 0), (617, 616, 92, 0), (539, 538, 92, 0), (478, 477, 92, 0), (457, 456, 92, 0), (475, 474, 92, 0), (472, 471, 92, 0), (453, 452, 92, 0), (469, 468, 92, 0), (481, 480, 92, 0), (496, 495, 92, 0), (499, 498, 92, 0), (505, 504, 92, 0), (508, 507, 92, 0), (511, 510, 92, 0), (515, 514, 92, 0), (518, 517, 92, 0), (521, 520, 92, 0), (524, 523, 92, 0), (527, 526, 92, 0), (530, 529, 92, 0), (533, 532, 92, 0), (804, 802, 89, 803), (817, 815, 89, 816), (824, 822, 89, 823), (856, 854, 89, 855), (828, 826, 89, 827), (832, 831, 89, 18), (836, 835, 89, 19), (844, 843, 89, 21), (840, 839, 89, 20), (848, 847, 89, 22), (852, 851, 89, 23), (622, 621, 93, 0), (648, 647, 93, 0), (658, 657, 93, 0), (630, 629, 93, 0), (626, 625, 93, 0), (639, 638, 93, 0), (645, 644, 93, 0), (651, 650, 93, 0), (654, 653, 93, 0), (661, 660, 93, 0), (664, 663, 93, 0), (667, 666, 93, 0), (670, 669, 93, 0), (613, 611, 87, 612), (726, 724, 87, 725), (684, 682, 87, 683), (734, 732, 87, 733), (689, 687, 87, 688), (730, 728, 87, 729), (598, 596, 87, 597), (602, 601, 87, 14), (678, 677, 87, 15), (872, 870, 87, 871), (889, 887, 87, 888), (752, 750, 87, 751), (756, 755, 87, 16), (764, 762, 87, 763), (767, 766, 87, 0), (587, 585, 86, 586), (555, 553, 86, 554), (594, 592, 86, 593), (705, 703, 86, 704), (563, 561, 86, 562), (567, 565, 86, 566), (693, 691, 86, 692), (709, 707, 86, 708), (795, 793, 88, 794), (808, 806, 88, 807), (812, 810, 88, 811), (885, 883, 88, 884), (868, 866, 88, 867), (800, 798, 88, 799), (547, 545, 84, 546), (551, 549, 84, 550), (559, 557, 84, 558), (337, 335, 84, 336), (373, 372, 84, 7), (369, 368, 84, 6), (357, 356, 84, 4), (415, 414, 84, 11), (345, 344, 84, 1), (349, 348, 84, 2), (353, 352, 84, 3), (376, 375, 84, 0), (407, 406, 84, 0), (365, 364, 84, 5), (380, 379, 84, 8), (411, 410, 84, 10), (396, 395, 84, 9), (437, 436, 84, 12), (311, 309, 83, 310), (361, 359, 83, 360), (316, 314, 83, 315), (324, 322, 83, 323), (341, 339, 85, 340), (914, 912, 85, 913), (571, 569, 85, 570), (609, 607, 85, 608), (433, 431, 85, 432), (404, 402, 85, 403), (384, 382, 85, 383), (387, 386, 85, 0), (391, 389, 85, 390), (400, 398, 85, 399), (419, 417, 85, 418), (442, 440, 85, 441), (466, 464, 85, 465), (543, 541, 85, 542), (446, 444, 85, 445), (486, 484, 85, 485), (423, 421, 85, 422), (462, 460, 85, 461), (490, 488, 85, 489), (901, 899, 85, 900), (906, 904, 85, 905), (306, 304, 82, 305), (320, 318, 82, 319), (328, 326, 82, 327), (575, 573, 82, 574), (579, 577, 82, 578), (701, 699, 82, 700), (713, 711, 82, 712), (718, 716, 82, 717), (722, 720, 82, 721), (738, 736, 82, 737), (748, 746, 82, 747), (760, 758, 82, 759), (778, 776, 82, 777), (860, 858, 82, 859), (877, 875, 82, 876), (893, 891, 82, 892), (910, 908, 82, 909), (332, 331, 82, 0), (583, 582, 82, 13), (590, 589, 82, 0), (781, 780, 82, 0), (789, 788, 82, 0), (820, 819, 82, 0), (786, 785, 82, 17), (864, 863, 82, 24), (881, 880, 82, 25), (1105, 1104, 90, 0), (1257, 1256, 90, 0), (1446, 1445, 90, 0), (1328, 1327, 90, 60), (1102, 1100, 90, 1101), (1111, 1109, 90, 1110), (1128, 1127, 90, 28), (1154, 1153, 90, 0), (1157, 1156, 90, 0), (1172, 1171, 90, 0), (1139, 1138, 90, 0), (1169, 1168, 90, 36), (1165, 1164, 90, 35), (1136, 1135, 90, 30), (1147, 1146, 90, 32), (1143, 1142, 90, 31), (1192, 1191, 90, 41), (1161, 1160, 90, 34), (1124, 1123, 90, 27), (1151, 1150, 90, 33), (1176, 1175, 90, 37), (1184, 1183, 90, 39), (1180, 1179, 90, 38), (1196, 1195, 90, 42), (1188, 1187, 90, 40), (1132, 1131, 90, 29), (1200, 1199, 90, 43), (1120, 1119, 90, 26), (1204, 1203, 90, 44), (1208, 1207, 90, 45), (1306, 1305, 90, 58), (1309, 1308, 90, 0), (1316, 1315, 90, 0), (1313, 1312, 90, 59), (1115, 1113, 90, 1114), (1320, 1318, 90, 1319), (1219, 1218, 90, 0), (1263, 1262, 90, 0), (1247, 1246, 90, 0), (1260, 1259, 90, 0), (1250, 1249, 90, 0), (1229, 1228, 90, 0), (1241, 1240, 90, 50), (1216, 1215, 90, 0), (1237, 1236, 90, 49), (1222, 1221, 90, 0), (1226, 1225, 90, 47), (1254, 1253, 90, 51), (1269, 1268, 90, 0), (1266, 1265, 90, 0), (1275, 1274, 90, 0), (1244, 1243, 90, 0), (1286, 1285, 90, 0), (1283, 1282, 90, 53), (1279, 1278, 90, 52), (1233, 1232, 90, 48), (1272, 1271, 90, 0), (1294, 1293, 90, 55), (1298, 1297, 90, 56), (1302, 1301, 90, 57), (1290, 1289, 90, 54), (1213, 1212, 90, 46), (1344, 1343, 90, 64), (1340, 1339, 90, 63), (1348, 1347, 90, 65), (1336, 1335, 90, 62), (1358, 1357, 90, 0), (1355, 1354, 90, 0), (1376, 1375, 90, 0), (1379, 1378, 90, 0), (1382, 1381, 90, 0), (1370, 1369, 90, 69), (1373, 1372, 90, 0), (1385, 1384, 90, 0), (1388, 1387, 90, 0), (1392, 1391, 90, 70), (1366, 1365, 90, 68), (1362, 1361, 90, 67), (1400, 1399, 90, 72), (1396, 1395, 90, 71), (1352, 1351, 90, 66), (1332, 1331, 90, 61), (1324, 1322, 90, 1323), (1405, 1403, 90, 1404), (1409, 1407, 90, 1408), (1413, 1411, 90, 1412), (1417, 1415, 90, 1416), (1421, 1419, 90, 1420), (1429, 1428, 90, 73), (1425, 1423, 90, 1424), (1436, 1435, 90, 0), (1433, 1431, 90, 1432), (1443, 1442, 90, 0), (1457, 1456, 90, 0), (1454, 1453, 90, 75), (1450, 1449, 90, 74), (1465, 1464, 90, 77), (1461, 1460, 90, 76), (1440, 1438, 90, 1439), (1473, 1472, 90, 78), (1469, 1467, 90, 1468), (1481, 1480, 90, 79), (1477, 1475, 90, 1476), (1489, 1488, 90, 80), (1485, 1483, 90, 1484), (1493, 1491, 90, 1492), (770, 769, 95, 0)]
/-! what the static tables say is so: by computing -/
def am_il : Instr → Nat
  | .bipush _ => 2
  | .ldc _ => 2
  | .iload _ => 2
  | .aload _ => 2
  | .istore _ => 2
  | .astore _ => 2
  | .sipush _ => 3
  | .ldc_w _ => 3
  | .iinc _ _ => 3
  | .goto _ => 3
  | .if_icmp _ _ => 3
  | .ifCond _ _ => 3
  | .ifnull _ => 3
  | .ifnonnull _ => 3
  | .getfield _ => 3
  | .putfield _ => 3
  | .invokestatic _ => 3
  | .invokevirtual _ => 3
  | _ => 1
def am_isw : Instr → Bool
  | .lookupswitch _ _ => true
  | .tableswitch _ _ _ _ => true
  | _ => false
def am_okD (b : ByteArray) (q : Nat × Instr) : Bool := match decode b q.1 with
  | .ok (i, n) => decide (i = q.2) && (am_isw i || n == am_il i)
  | _ => false
def am_okM (q : am_I × Nat × Nat × Nat × Nat) : Bool := match q with
  | (M, p1, p2, p3, p4) => decide (lw_tbl[p2]? = some (if am_st M then Cond.static (am_y M) else Cond.instanceMethod (am_y M))) && decide (lw_tbl[p3]? = some (Cond.initialized (am_y M).cls)) && (am_st M || decide (lw_tbl[p4]? = some (Cond.selects (am_y M).cls (am_y M) (am_y M))))
    && decide ((am_y M).cls = am_cn (am_w M)) && plainName (am_y M).cls && decide ((am_y M).cls ≠ "java/lang/invoke/MethodHandle") && decide ((am_y M).cls ≠ "java/lang/invoke/VarHandle") && decide ((parseMethodDescriptor (am_y M).desc).map (fun d => d.parameters.length) = some (if am_st M then am_na M else am_na M - 1)) && decide (am_ml M ≤ 20) && decide (am_na M ≤ am_ml M) && decide (am_st M = true ∨ 1 ≤ am_na M) && decide (am_st M = true ∨ (vwCl[am_ci (am_w M)]?).map (fun q => q.1) = some (am_y M).cls)
def am_okI (M : am_I) : Bool := (am_is M).all (am_okD (am_b M))
def am_okT (d : String) (fin : Bool) (ft : Nat) : Bool := match parseFieldDescriptor d, ft with
  | some .int, 0 => !fin
  | some .boolean, 1 => !fin
  | some (.object _), 2 => true
  | some (.array _), 2 => true
  | some (.object _), 3 => !fin
  | some (.array _), 3 => !fin
  | _, _ => false
def am_okF (w : Nat) (e : Nat × Nat × Nat) : Bool := match vwCl[am_ci w]? with
  | some q => decide (e.2.1 < q.2.2) && decide (lw_tbl[e.2.2]? = some (Cond.fieldLink (am_cn w) e.1 (q.2.1 e.2.1).1 (q.2.1 e.2.1).2.1 (q.2.1 e.2.1).2.2.1)) && am_okT (q.2.1 e.2.1).2.2.1 (q.2.1 e.2.1).2.2.2 (am_ft (am_ci w) e.2.1)
  | none => false
def am_okC (w : Nat) (e : Nat × Int32 × Nat) : Bool := decide (lw_tbl[e.2.2]? = some (Cond.constant (am_cn w) e.1 e.2.1))
def am_okL (w : Nat) (e : Nat × Nat × Nat) : Bool := match am_meth e.2.1 with
  | some M => decide (lw_tbl[e.2.2]? = some (Cond.methodLink (am_cn w) e.1 (am_y M)))
  | none => false
theorem am_f_ok : (List.range 13).all (fun w => (am_fldL.getD w []).all (am_okF w)) = true := by decide +kernel
theorem am_c_ok : (List.range 13).all (fun w => (am_cstL.getD w []).all (am_okC w)) = true := by decide +kernel
def am_okX (w : Nat) (e : Nat × Bool × Nat) : Bool := decide (lw_tbl[e.2.2]? = some (Cond.methodLink (am_cn w) e.1 (if e.2.1 then Lib.Math.max.name else Lib.Math.min.name)))
theorem am_x_ok : (List.range 13).all (fun w => (am_mmL.getD w []).all (am_okX w)) = true := by decide +kernel
theorem am_l_ok : (List.range 13).all (fun w => (am_mthL.getD w []).all (am_okL w)) = true := by decide +kernel
theorem am_mx1 : lw_tbl[428]? = some (Cond.static Lib.Math.max.name) := by decide +kernel
theorem am_mn1 : lw_tbl[425]? = some (Cond.static Lib.Math.min.name) := by decide +kernel
theorem am_mx2 : lw_tbl[429]? = some (Cond.code Lib.Math.max.name Lib.Math.max.code 2 (some .int)) := by decide +kernel
theorem am_mn2 : lw_tbl[426]? = some (Cond.code Lib.Math.min.name Lib.Math.min.code 2 (some .int)) := by decide +kernel
theorem am_mi : lw_tbl[91]? = some (Cond.initialized "java/lang/Math") := by decide +kernel
theorem am_ac1 : lw_tbl[694]? = some (Cond.methodLink (am_cn 4) 37 arraycopyName) := by decide +kernel
theorem am_ac2 : lw_tbl[696]? = some (Cond.native arraycopyName) := by decide +kernel
theorem am_ac3 : lw_tbl[695]? = some (Cond.static arraycopyName) := by decide +kernel
theorem am_ac4 : lw_tbl[94]? = some (Cond.initialized "java/lang/System") := by decide +kernel
theorem am_m_ok0 : (((am_tab.zip am_posL).drop 0).take 16).all am_okM = true := by decide +kernel
theorem am_m_ok1 : (((am_tab.zip am_posL).drop 16).take 16).all am_okM = true := by decide +kernel
theorem am_m_ok2 : (((am_tab.zip am_posL).drop 32).take 16).all am_okM = true := by decide +kernel
theorem am_m_ok3 : (((am_tab.zip am_posL).drop 48).take 16).all am_okM = true := by decide +kernel
theorem am_m_ok4 : (((am_tab.zip am_posL).drop 64).take 16).all am_okM = true := by decide +kernel
theorem am_m_ok5 : (((am_tab.zip am_posL).drop 80).take 16).all am_okM = true := by decide +kernel
theorem am_m_ok6 : (((am_tab.zip am_posL).drop 96).take 16).all am_okM = true := by decide +kernel
theorem am_m_ok7 : (((am_tab.zip am_posL).drop 112).take 16).all am_okM = true := by decide +kernel
theorem am_m_ok8 : (((am_tab.zip am_posL).drop 128).take 16).all am_okM = true := by decide +kernel
theorem am_m_ok9 : (((am_tab.zip am_posL).drop 144).take 16).all am_okM = true := by decide +kernel
theorem am_m_ok10 : (((am_tab.zip am_posL).drop 160).take 16).all am_okM = true := by decide +kernel
theorem am_m_ok11 : (((am_tab.zip am_posL).drop 176).take 16).all am_okM = true := by decide +kernel
theorem am_m_ok12 : (((am_tab.zip am_posL).drop 192).take 16).all am_okM = true := by decide +kernel
theorem am_m_ok13 : (((am_tab.zip am_posL).drop 208).take 16).all am_okM = true := by decide +kernel
theorem am_m_ok14 : (((am_tab.zip am_posL).drop 224).take 16).all am_okM = true := by decide +kernel
theorem am_m_ok15 : (((am_tab.zip am_posL).drop 240).take 16).all am_okM = true := by decide +kernel
