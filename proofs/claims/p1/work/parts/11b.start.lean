theorem dL_law_40 : decode cL_law 40 = .ok (.tableswitch 1918 0 36 #[164, 189, 262, 287, 312, 337, 469, 530, 579, 666, 801, 888, 937, 974, 1011, 1048, 1097, 1122, 1183, 1208, 1269, 1306, 1319, 1368, 1405, 1442, 1491, 1552, 1565, 1642, 1679, 1716, 1793, 1806, 1831, 1868, 1893], 164) := by decide +kernel
theorem dL_law_0 : decode cL_law 0 = .ok (.new 8, 3) := by decide +kernel
theorem dL_law_3 : decode cL_law 3 = .ok (.dup, 1) := by decide +kernel
set_option maxRecDepth 20000 in
theorem ggL_law_X11_init : GoodIn wsL_law wsX11_init := goodIn_r _ [10, 11, 12, 13, 14, 15, 16, 17, 18, 19, 20, 21, 22, 23, 24, 25, 26, 27, 28, 29, 30, 31, 32, 33, 34, 35, 36, 37, 38, 39, 40, 41, 42, 43, 44, 45, 46, 47, 48, 49, 50, 51, 52, 53, 54, 55, 56, 57, 58, 59, 60, 61, 62, 63, 64, 65, 66, 67, 68, 69, 70, 71, 72, 73, 74, 75, 76, 77, 78, 79, 80, 81, 82, 83, 84, 85, 86, 87, 88, 89, 90, 91, 92, 93, 94, 95, 96, 97, 98, 99, 100, 101, 102, 103, 104, 105, 106, 107, 108, 109, 110, 111, 112, 113, 114, 115, 116, 117, 118, 119, 120, 121, 122, 123, 124, 125, 126, 127, 128, 6, 129, 130, 131, 132, 133, 134, 135, 136, 137, 138, 139, 140, 141, 142, 143, 144, 145, 146, 147, 148, 149, 150, 151, 152, 153, 154, 155, 156, 157, 158, 159, 160, 161, 162, 163, 164, 165, 166, 167, 168, 169, 170, 171, 172, 173, 174, 175, 176, 177, 178, 179, 180, 181, 182, 1531, 1532, 1449, 1450, 1451, 1452, 1453, 1454, 1455, 1456, 1457, 1458, 1459, 1460, 1461, 1533, 1534, 1535, 1536, 1537, 1538, 1539, 1540, 1541, 1542, 1543, 1544, 1545, 1546, 1547, 1548, 1549, 1550, 1551, 1552, 1553, 1554, 1555, 1556, 1557, 1558, 1559, 1560, 1561, 1562, 1563, 1564, 1565, 1566, 1567, 1568, 1569, 1570, 1571, 1572, 1573, 1574, 1575, 1576, 1577, 1578, 1579, 1580, 1581, 1582, 1583, 1584, 1585, 1586, 1587, 1588, 1589, 1590, 1591, 1592, 1593, 1594, 1595, 1596, 1597, 1598, 1599, 1600, 1601, 1602, 1603, 1604, 1605, 1606, 1607, 1608, 1609, 1610, 1611, 1612, 1613, 1614, 1615, 1616, 1617, 1618, 1619, 1620, 1621, 1622, 1623, 1624, 1625, 1626, 1627, 1628, 1629, 1630, 1631, 1632, 1633, 1634, 1635, 1636, 1637] (by decide +kernel) (by decide +kernel)
set_option maxRecDepth 20000 in
theorem gL_law_X11_init : GoodIn wsL_law (wsX11_init) := ggL_law_X11_init
theorem dL_law_4 : decode cL_law 4 = .ok (.invokespecial 15, 3) := by decide +kernel
theorem dL_law_7 : decode cL_law 7 = .ok (.astore_n 1, 1) := by decide +kernel
theorem dL_law_8 : decode cL_law 8 = .ok (.new 16, 3) := by decide +kernel
theorem dL_law_11 : decode cL_law 11 = .ok (.dup, 1) := by decide +kernel
set_option maxRecDepth 20000 in
theorem ggL_law_X12_init : GoodIn wsL_law wsX12_init := goodIn_r _ [185, 186, 12, 13, 187, 188, 189, 61, 190, 191, 192, 193, 194, 195, 196, 197, 198, 199, 200, 201, 202, 203, 204, 205, 206, 207, 208, 209, 210, 6, 211, 212, 106, 213, 214, 215, 216, 217, 218, 219, 220, 221, 222, 223, 224, 225, 226, 227, 228, 229, 230, 231, 232, 1462, 1463, 1464, 1465, 1466, 1467, 1468, 1469, 1470, 1471, 1472, 1473, 1474, 1475, 1476, 1477, 1478, 1479, 1480, 1481, 1482, 1483, 1484, 1485, 1486, 1487, 1488, 1489, 1490, 1491, 1492, 1493, 1494, 1495, 1496, 1497, 1498, 1499, 1500, 1501, 1502, 1503, 1504, 1505, 1506, 1507, 1508, 1509, 1510, 1511, 1512, 1513, 1514, 1515, 1516, 1517, 1518, 1519, 1520, 1521, 1522, 1523, 1524, 1525, 1526, 1527, 1528, 1529, 1530] (by decide +kernel) (by decide +kernel)
set_option maxRecDepth 20000 in
theorem gL_law_X12_init : GoodIn wsL_law (wsX12_init) := ggL_law_X12_init
theorem dL_law_12 : decode cL_law 12 = .ok (.invokespecial 18, 3) := by decide +kernel
theorem dL_law_15 : decode cL_law 15 = .ok (.astore_n 2, 1) := by decide +kernel
theorem dL_law_16 : decode cL_law 16 = .ok (.iconst 1, 1) := by decide +kernel
theorem dL_law_17 : decode cL_law 17 = .ok (.newarray .long, 2) := by decide +kernel
theorem dL_law_19 : decode cL_law 19 = .ok (.astore_n 3, 1) := by decide +kernel
theorem dL_law_20 : decode cL_law 20 = .ok (.iconst 0, 1) := by decide +kernel
theorem dL_law_21 : decode cL_law 21 = .ok (.istore 4, 2) := by decide +kernel
theorem dL_law_33 : decode cL_law 33 = .ok (.aload_n 0, 1) := by decide +kernel
theorem dL_law_34 : decode cL_law 34 = .ok (.iload 4, 2) := by decide +kernel
theorem dL_law_36 : decode cL_law 36 = .ok (.iaload, 1) := by decide +kernel
theorem dL_law_37 : decode cL_law 37 = .ok (.bipush 63, 2) := by decide +kernel
theorem dL_law_39 : decode cL_law 39 = .ok (.iand, 1) := by decide +kernel
theorem mL_n0 : Cond.classLink RL 8 RX11 ∈ wsL_law := by decide +kernel
theorem mL_n1 : Cond.instantiable RX11 13 ∈ wsL_law := by decide +kernel
theorem mL_n2 : Cond.initialized RX11 ∈ wsL_law := by decide +kernel
theorem mL_n3 : Cond.methodLink RL 15 yX11_init ∈ wsL_law := by decide +kernel
theorem mL_n4 : Cond.instanceMethod yX11_init ∈ wsL_law := by decide +kernel
theorem mL_n5 : Cond.classLink RL 16 RX12 ∈ wsL_law := by decide +kernel
theorem mL_n6 : Cond.instantiable RX12 69 ∈ wsL_law := by decide +kernel
theorem mL_n7 : Cond.initialized RX12 ∈ wsL_law := by decide +kernel
theorem mL_n8 : Cond.methodLink RL 18 yX12_init ∈ wsL_law := by decide +kernel
theorem mL_n9 : Cond.instanceMethod yX12_init ∈ wsL_law := by decide +kernel
set_option maxHeartbeats 8000000 in
set_option maxRecDepth 100000 in
/-- the switch: each case ends the law with true -/
theorem law_switch {p : Program} {e : Env} {s : State} {m : MethodId} {below : List Frame} {meth : Method} {c : Code} (l : Launch) {b : Nat} {xs : Nat → Int32} {D : va_G} {cy : Nat → ClassId} {st aX aM : Nat → Nat} {o : Nat} {H : Heap} {locs : List Loc} {ls : Array Slot} (hW : LW p s m meth c b xs D cy st aX aM o H locs) (hl : lv_has ls 7 [(0, .ref b), (1, .ref (aX 0)), (2, .ref (aM 0)), (3, .ref o), (4, .int 0)]) (hfl : l.stackTraces = false) (hE : Exs (fun q : Nat => s.heap.size ≤ q) s) (v : Int32) : W p l e room_1 s m #[Value.ref b] below meth c H locs 118 17833 (lw_Z below #[Value.ref b] s) (F0 m 40 ls [.int v]) := by
  have hW0 := hW
  obtain ⟨C0, hK, hJX, hJM, hAX, hAM, hdis, hPX, hPM, hS⟩ := hW0
  obtain ⟨hx, hb, hr, hml, hown, hts0, hX, hbl, hlocks, hgv⟩ := C0
  have hbA : ¬ (fun q : Nat => s.heap.size ≤ q) b := Nat.not_le.mpr hbl
  by_cases c0 : v = 0
  · rw [c0]
    refine lv_tableIn (off := 164) (tgt := 204) hx hb dL_law_40 (by decide) (by decide) (by decide) (by decide) ?_
    exact case_0 l hW hl
  by_cases c1 : v = 1
  · rw [c1]
    refine lv_tableIn (off := 189) (tgt := 229) hx hb dL_law_40 (by decide) (by decide) (by decide) (by decide) ?_
    exact case_1 l hW hl
  by_cases c2 : v = 2
  · rw [c2]
    refine lv_tableIn (off := 262) (tgt := 302) hx hb dL_law_40 (by decide) (by decide) (by decide) (by decide) ?_
    exact case_2 l hW hl
  by_cases c3 : v = 3
  · rw [c3]
    refine lv_tableIn (off := 287) (tgt := 327) hx hb dL_law_40 (by decide) (by decide) (by decide) (by decide) ?_
    exact case_3 l hW hl
  by_cases c4 : v = 4
  · rw [c4]
    refine lv_tableIn (off := 312) (tgt := 352) hx hb dL_law_40 (by decide) (by decide) (by decide) (by decide) ?_
    exact case_4 l hW hl
  by_cases c5 : v = 5
  · rw [c5]
    refine lv_tableIn (off := 337) (tgt := 377) hx hb dL_law_40 (by decide) (by decide) (by decide) (by decide) ?_
    exact case_5 l hW hl hfl hE
  by_cases c6 : v = 6
  · rw [c6]
    refine lv_tableIn (off := 469) (tgt := 509) hx hb dL_law_40 (by decide) (by decide) (by decide) (by decide) ?_
    exact case_6 l hW hl
  by_cases c7 : v = 7
  · rw [c7]
    refine lv_tableIn (off := 530) (tgt := 570) hx hb dL_law_40 (by decide) (by decide) (by decide) (by decide) ?_
    exact case_7 l hW hl
  by_cases c8 : v = 8
  · rw [c8]
    refine lv_tableIn (off := 579) (tgt := 619) hx hb dL_law_40 (by decide) (by decide) (by decide) (by decide) ?_
    exact case_8 l hW hl
  by_cases c9 : v = 9
  · rw [c9]
    refine lv_tableIn (off := 666) (tgt := 706) hx hb dL_law_40 (by decide) (by decide) (by decide) (by decide) ?_
    exact case_9 l hW hl
  by_cases c10 : v = 10
  · rw [c10]
    refine lv_tableIn (off := 801) (tgt := 841) hx hb dL_law_40 (by decide) (by decide) (by decide) (by decide) ?_
    exact case_10 l hW hl
  by_cases c11 : v = 11
  · rw [c11]
    refine lv_tableIn (off := 888) (tgt := 928) hx hb dL_law_40 (by decide) (by decide) (by decide) (by decide) ?_
    exact case_11 l hW hl
  by_cases c12 : v = 12
  · rw [c12]
    refine lv_tableIn (off := 937) (tgt := 977) hx hb dL_law_40 (by decide) (by decide) (by decide) (by decide) ?_
    exact case_12 l hW hl
  by_cases c13 : v = 13
  · rw [c13]
    refine lv_tableIn (off := 974) (tgt := 1014) hx hb dL_law_40 (by decide) (by decide) (by decide) (by decide) ?_
    exact case_13 l hW hl
  by_cases c14 : v = 14
  · rw [c14]
    refine lv_tableIn (off := 1011) (tgt := 1051) hx hb dL_law_40 (by decide) (by decide) (by decide) (by decide) ?_
    exact case_14 l hW hl
  by_cases c15 : v = 15
  · rw [c15]
    refine lv_tableIn (off := 1048) (tgt := 1088) hx hb dL_law_40 (by decide) (by decide) (by decide) (by decide) ?_
    exact case_15 l hW hl
  by_cases c16 : v = 16
  · rw [c16]
    refine lv_tableIn (off := 1097) (tgt := 1137) hx hb dL_law_40 (by decide) (by decide) (by decide) (by decide) ?_
    exact case_16 l hW hl
  by_cases c17 : v = 17
  · rw [c17]
    refine lv_tableIn (off := 1122) (tgt := 1162) hx hb dL_law_40 (by decide) (by decide) (by decide) (by decide) ?_
    exact case_17 l hW hl
  by_cases c18 : v = 18
  · rw [c18]
    refine lv_tableIn (off := 1183) (tgt := 1223) hx hb dL_law_40 (by decide) (by decide) (by decide) (by decide) ?_
    exact case_18 l hW hl
  by_cases c19 : v = 19
  · rw [c19]
    refine lv_tableIn (off := 1208) (tgt := 1248) hx hb dL_law_40 (by decide) (by decide) (by decide) (by decide) ?_
    exact case_19 l hW hl
  by_cases c20 : v = 20
  · rw [c20]
    refine lv_tableIn (off := 1269) (tgt := 1309) hx hb dL_law_40 (by decide) (by decide) (by decide) (by decide) ?_
    exact case_20 l hW hl
  by_cases c21 : v = 21
  · rw [c21]
    refine lv_tableIn (off := 1306) (tgt := 1346) hx hb dL_law_40 (by decide) (by decide) (by decide) (by decide) ?_
    exact case_21 l hW hl
  by_cases c22 : v = 22
  · rw [c22]
    refine lv_tableIn (off := 1319) (tgt := 1359) hx hb dL_law_40 (by decide) (by decide) (by decide) (by decide) ?_
    exact case_22 l hW hl
  by_cases c23 : v = 23
  · rw [c23]
    refine lv_tableIn (off := 1368) (tgt := 1408) hx hb dL_law_40 (by decide) (by decide) (by decide) (by decide) ?_
    exact case_23 l hW hl
  by_cases c24 : v = 24
  · rw [c24]
    refine lv_tableIn (off := 1405) (tgt := 1445) hx hb dL_law_40 (by decide) (by decide) (by decide) (by decide) ?_
    exact case_24 l hW hl
  by_cases c25 : v = 25
  · rw [c25]
    refine lv_tableIn (off := 1442) (tgt := 1482) hx hb dL_law_40 (by decide) (by decide) (by decide) (by decide) ?_
    exact case_25 l hW hl
  by_cases c26 : v = 26
  · rw [c26]
    refine lv_tableIn (off := 1491) (tgt := 1531) hx hb dL_law_40 (by decide) (by decide) (by decide) (by decide) ?_
    exact case_26 l hW hl
  by_cases c27 : v = 27
  · rw [c27]
    refine lv_tableIn (off := 1552) (tgt := 1592) hx hb dL_law_40 (by decide) (by decide) (by decide) (by decide) ?_
    exact case_27 l hW hl
  by_cases c28 : v = 28
  · rw [c28]
    refine lv_tableIn (off := 1565) (tgt := 1605) hx hb dL_law_40 (by decide) (by decide) (by decide) (by decide) ?_
    exact case_28 l hW hl
  by_cases c29 : v = 29
  · rw [c29]
    refine lv_tableIn (off := 1642) (tgt := 1682) hx hb dL_law_40 (by decide) (by decide) (by decide) (by decide) ?_
    exact case_29 l hW hl
  by_cases c30 : v = 30
  · rw [c30]
    refine lv_tableIn (off := 1679) (tgt := 1719) hx hb dL_law_40 (by decide) (by decide) (by decide) (by decide) ?_
    exact case_30 l hW hl
  by_cases c31 : v = 31
  · rw [c31]
    refine lv_tableIn (off := 1716) (tgt := 1756) hx hb dL_law_40 (by decide) (by decide) (by decide) (by decide) ?_
    exact case_31 l hW hl
  by_cases c32 : v = 32
  · rw [c32]
    refine lv_tableIn (off := 1793) (tgt := 1833) hx hb dL_law_40 (by decide) (by decide) (by decide) (by decide) ?_
    exact case_32 l hW hl
  by_cases c33 : v = 33
  · rw [c33]
    refine lv_tableIn (off := 1806) (tgt := 1846) hx hb dL_law_40 (by decide) (by decide) (by decide) (by decide) ?_
    exact case_33 l hW hl
  by_cases c34 : v = 34
  · rw [c34]
    refine lv_tableIn (off := 1831) (tgt := 1871) hx hb dL_law_40 (by decide) (by decide) (by decide) (by decide) ?_
    exact case_34 l hW hl
  by_cases c35 : v = 35
  · rw [c35]
    refine lv_tableIn (off := 1868) (tgt := 1908) hx hb dL_law_40 (by decide) (by decide) (by decide) (by decide) ?_
    exact case_35 l hW hl
  by_cases c36 : v = 36
  · rw [c36]
    refine lv_tableIn (off := 1893) (tgt := 1933) hx hb dL_law_40 (by decide) (by decide) (by decide) (by decide) ?_
    exact case_36 l hW hl
  have e0 := lv_neT c0 (show (0 : Int32).toInt = 0 from by decide)
  have e1 := lv_neT c1 (show (1 : Int32).toInt = 1 from by decide)
  have e2 := lv_neT c2 (show (2 : Int32).toInt = 2 from by decide)
  have e3 := lv_neT c3 (show (3 : Int32).toInt = 3 from by decide)
  have e4 := lv_neT c4 (show (4 : Int32).toInt = 4 from by decide)
  have e5 := lv_neT c5 (show (5 : Int32).toInt = 5 from by decide)
  have e6 := lv_neT c6 (show (6 : Int32).toInt = 6 from by decide)
  have e7 := lv_neT c7 (show (7 : Int32).toInt = 7 from by decide)
  have e8 := lv_neT c8 (show (8 : Int32).toInt = 8 from by decide)
  have e9 := lv_neT c9 (show (9 : Int32).toInt = 9 from by decide)
  have e10 := lv_neT c10 (show (10 : Int32).toInt = 10 from by decide)
  have e11 := lv_neT c11 (show (11 : Int32).toInt = 11 from by decide)
  have e12 := lv_neT c12 (show (12 : Int32).toInt = 12 from by decide)
  have e13 := lv_neT c13 (show (13 : Int32).toInt = 13 from by decide)
  have e14 := lv_neT c14 (show (14 : Int32).toInt = 14 from by decide)
  have e15 := lv_neT c15 (show (15 : Int32).toInt = 15 from by decide)
  have e16 := lv_neT c16 (show (16 : Int32).toInt = 16 from by decide)
  have e17 := lv_neT c17 (show (17 : Int32).toInt = 17 from by decide)
  have e18 := lv_neT c18 (show (18 : Int32).toInt = 18 from by decide)
  have e19 := lv_neT c19 (show (19 : Int32).toInt = 19 from by decide)
  have e20 := lv_neT c20 (show (20 : Int32).toInt = 20 from by decide)
  have e21 := lv_neT c21 (show (21 : Int32).toInt = 21 from by decide)
  have e22 := lv_neT c22 (show (22 : Int32).toInt = 22 from by decide)
  have e23 := lv_neT c23 (show (23 : Int32).toInt = 23 from by decide)
  have e24 := lv_neT c24 (show (24 : Int32).toInt = 24 from by decide)
  have e25 := lv_neT c25 (show (25 : Int32).toInt = 25 from by decide)
  have e26 := lv_neT c26 (show (26 : Int32).toInt = 26 from by decide)
  have e27 := lv_neT c27 (show (27 : Int32).toInt = 27 from by decide)
  have e28 := lv_neT c28 (show (28 : Int32).toInt = 28 from by decide)
  have e29 := lv_neT c29 (show (29 : Int32).toInt = 29 from by decide)
  have e30 := lv_neT c30 (show (30 : Int32).toInt = 30 from by decide)
  have e31 := lv_neT c31 (show (31 : Int32).toInt = 31 from by decide)
  have e32 := lv_neT c32 (show (32 : Int32).toInt = 32 from by decide)
  have e33 := lv_neT c33 (show (33 : Int32).toInt = 33 from by decide)
  have e34 := lv_neT c34 (show (34 : Int32).toInt = 34 from by decide)
  have e35 := lv_neT c35 (show (35 : Int32).toInt = 35 from by decide)
  have e36 := lv_neT c36 (show (36 : Int32).toInt = 36 from by decide)
  refine lv_tableOut (tgt := 1958) hx hb dL_law_40 (by omega) (by decide) ?_
  exact law_end l (by decide) (by decide) hx hb hr hlocks hX hbl hbA hS hl
set_option maxHeartbeats 8000000 in
set_option maxRecDepth 100000 in
theorem whole_start {p : Program} {e : Env} {s : State} {m : MethodId} {below : List Frame} {meth : Method} {c : Code} (l : Launch) (hfl : l.stackTraces = false) {b L : Nat} {xs : Nat → Int32} (hL : L ≤ 9) (C0 : lw_At p s m meth c b L xs) : W p l e room_1 s m #[Value.ref b] below meth c s.heap [] 0 0 (lw_Z below #[Value.ref b] s) (entryFrame m ([Value.ref b] : List Value).toArray 7) := by
  obtain ⟨hx, hb, hr, hml, hown, hts0, hX, hbl, hlocks, hgv⟩ := id C0
  have hts : ∀ w ∈ wsL_law, w.before #[Value.ref b] s = true := fun w h => hts0 w (wsL_law_in w h)
  have hA : ∀ q : Nat, s.heap.size ≤ q → (fun q : Nat => s.heap.size ≤ q) q := fun _ h => h
  have hbA : ¬ (fun q : Nat => s.heap.size ≤ q) b := Nat.not_le.mpr hbl
  obtain ⟨D, cy, st, hK, hev⟩ := start_K hts0
  have hO : va_AO "HissHorn$Text" s := va_AO.of (hts0 _ arro)
  have hZ0 := start_S0 hgv (hev (RX11, 27, "dahewl", 0) (by decide))
  have hZ1 := start_S1 hgv (hev (RX11, 36, "la", 1) (by decide))
  have hZ2 := start_S2 hgv (hev (RX11, 41, "ngbkt", 2) (by decide))
  have hZc := start_C hts0 hgv
  have hE := start_E hts0 hgv
  have hS : va_S (fun q : Nat => s.heap.size ≤ q) s.heap s.heap [] := va_S.rf
  have hP : va_P D vwCl [] s.heap := fun k q h => by simp at h
  have hD : va_D (fun q : Nat => s.heap.size ≤ q) [] := ⟨fun i j p q h => by simp at h, fun k q h => by simp at h⟩
  have hl := lv_entry ([.ref b]) (n := 7) (Nat.le_of_ble_eq_true rfl)
  rw [lg_entry_eq]
  generalize (lg_sl ([.ref b]) ++ List.replicate (7 - (lg_sl ([.ref b])).length) Slot.unset).toArray = ls at hl ⊢
  have hl : lv_has ls 7 [(0, .ref b)] := hl
  refine va_new (ci := 11) (fs := [.null, .null, .null, .null, .null, .null, .null, .null, .null, .null, .null, .null, .int 0]) (C := RX11) (T := TX11) (N := 13) hx hb hts0 inX11 tyX11 tyX11_ok hown (hts _ mL_n0) (hts _ mL_n1) (hts _ mL_n2) hK.1 hP hD hS hA rfl (by decide) (Nat.le_of_ble_eq_true rfl) (Nat.le_of_ble_eq_true rfl) dL_law_0 (fun hx0 H hP hD hS => ?_)
  have hP : va_P D vwCl [(hx0, .inr (11, [.null, .null, .null, .null, .null, .null, .null, .null, .null, .null, .null, .null, .int 0]))] H := hP
  have hD : va_D (fun q : Nat => s.heap.size ≤ q) [(hx0, .inr (11, [.null, .null, .null, .null, .null, .null, .null, .null, .null, .null, .null, .null, .int 0]))] := hD
  refine lv_dup hx hb dL_law_3 rfl ?_
  have h0A : s.heap.size ≤ hx0 := hD.2 0 _ rfl
  have hFc : ∀ q, Ax (fun a => a = hx0) H.size q → (fun q : Nat => s.heap.size ≤ q) q := fun q h => h.elim (fun z => by rw [z]; exact h0A) (fun z => Nat.le_trans hS.1 z)
  refine va_callv (va_runI (As := []) (rest := [.ref hx0]) ⟨hx, hb, hml, hown, hts⟩ (kcX11 l D cy st hx0 H.size) (cwI 0 hts gL_law_X11_init rfl rfl rfl (hts _ mL_n2) (hts _ mL_n3) (hts _ mL_n4) rfl (by decide +kernel) ⟨Nat.le_of_ble_eq_true rfl, Nat.le_of_ble_eq_true rfl⟩) ⟨fun a U g mk q => by
      obtain ⟨q0, q1, qP, qK, qO, qZ0, qZ1, qZ2, qC⟩ := q
      exact ⟨q0, q1, qP, Kx_call qK, va_AO.moved (u := U) (U := U.calling g mk a) (Vm.Alike.refl U.vm) qO, Zs_mv (U := U.calling g mk a) qZ0 (Vm.Alike.refl U.vm) (fun _ _ _ => rfl) (fun _ _ h => h), Zs_mv (U := U.calling g mk a) qZ1 (Vm.Alike.refl U.vm) (fun _ _ _ => rfl) (fun _ _ h => h), Zs_mv (U := U.calling g mk a) qZ2 (Vm.Alike.refl U.vm) (fun _ _ _ => rfl) (fun _ _ h => h), Zc_mv (U := U.calling g mk a) qC (Vm.Alike.refl U.vm) (fun _ _ _ => rfl) (fun _ _ h => h)⟩, fun U hU hW => ⟨rfl, by rw [hU], by rw [hU]; exact hP, Kx_warm hW hK, va_AO.moved hW.alike hO, Zs_mv hZ0 hW.alike (fun q h1 h2 => by rw [hU]; exact hS.2.1 q h1 h2) (fun q _ h => hFc q h), Zs_mv hZ1 hW.alike (fun q h1 h2 => by rw [hU]; exact hS.2.1 q h1 h2) (fun q _ h => hFc q h), Zs_mv hZ2 hW.alike (fun q h1 h2 => by rw [hU]; exact hS.2.1 q h1 h2) (fun q _ h => hFc q h), Zc_mv hZc hW.alike (fun q h1 h2 => by rw [hU]; exact hS.2.1 q h1 h2) (fun q _ h => hFc q h)⟩⟩ rfl rfl hl.1 rfl (lv_room (Nat.le_of_ble_eq_true rfl)) dL_law_4 ⟨Nat.le_of_ble_eq_true rfl, Nat.le_of_ble_eq_true rfl⟩) hS (fun q _ h => hFc q h) hFc (fun u t H1 locs ht hvm hw hB hz1 hk1 hS => ?_)
  obtain ⟨hP1, hD1⟩ := hB
  rw [ht] at hP1
  obtain ⟨aX, e0, k1, k2⟩ := atX11_V cy st hx0 u
  have hPX := k1 D H1 hP1
  have hDX := k2 _ hD1
  have hJX := VX_J hDX
  have hAX : ∀ q, AX aX q → s.heap.size ≤ q := fun q h => hFc q (VX_in hDX q h)
  have hltX : ∀ q, AX aX q → q < H1.size := fun q ⟨k, hk, z⟩ => by
    obtain ⟨e9, h9⟩ := VX_at (cy := cy) (ad := aX) (st := st) (u := uX) hk
    rw [z]
    exact (hPX k _ h9).lt
  have hDS : va_D (fun q : Nat => s.heap.size ≤ q) (VX cy aX st uX) := D_mono hFc hDX
  clear hP1 hD1 k1 k2 hDX hk1 hz1 hw hvm ht hP hD hFc
  refine W.cs (cells' := 73) (slots' := 6533) rfl rfl ?_
  refine lv_astore_n (lv' := [(1, .ref hx0), (0, .ref b)]) hx hb dL_law_7 rfl hl (by decide) rfl (fun ls hl => ?_)
  refine va_new (ci := 12) (fs := [.int 0, .int 0, .null, .null, .null, .null, .null, .null, .int 0, .int 0, .int 0, .int 0, .int 0, .int 0, .int 0, .null, .int 0, .null, .null, .null, .null, .null, .null, .null, .null, .null, .null, .null, .null, .int 0, .int 0, .int 0, .null, .null, .null, .null, .int 0, .int 0, .int 0, .int 0, .int 0, .int 0, .null, .null, .null, .null, .null, .null, .null, .null, .null, .null, .null, .null, .int 0, .null, .null, .null, .null, .null, .null, .null, .null, .null, .null, .int 0, .int 0, .int 0, .int 0]) (C := RX12) (T := TX12) (N := 69) hx hb hts0 inX12 tyX12 tyX12_ok hown (hts _ mL_n5) (hts _ mL_n6) (hts _ mL_n7) hK.1 hPX hDS hS hA rfl (by decide) (Nat.le_of_ble_eq_true rfl) (Nat.le_of_ble_eq_true rfl) dL_law_8 (fun hm0 H2 hP hD hS => ?_)
  have hPc : va_P D vwCl [(hm0, .inr (12, [.int 0, .int 0, .null, .null, .null, .null, .null, .null, .int 0, .int 0, .int 0, .int 0, .int 0, .int 0, .int 0, .null, .int 0, .null, .null, .null, .null, .null, .null, .null, .null, .null, .null, .null, .null, .int 0, .int 0, .int 0, .null, .null, .null, .null, .int 0, .int 0, .int 0, .int 0, .int 0, .int 0, .null, .null, .null, .null, .null, .null, .null, .null, .null, .null, .null, .null, .int 0, .null, .null, .null, .null, .null, .null, .null, .null, .null, .null, .int 0, .int 0, .int 0, .int 0]))] H2 := hP.sub [73] rfl
  have hlen : (VX cy aX st uX).length = 73 := rfl
  have hne : ∀ q, AX aX q → q ≠ hm0 ∧ q < H2.size := fun q ⟨k, hk, z⟩ => by
    obtain ⟨e9, h9⟩ := VX_at (cy := cy) (ad := aX) (st := st) (u := uX) hk
    have h8 : (VX cy aX st uX ++ [(hm0, .inr (12, [.int 0, .int 0, .null, .null, .null, .null, .null, .null, .int 0, .int 0, .int 0, .int 0, .int 0, .int 0, .int 0, .null, .int 0, .null, .null, .null, .null, .null, .null, .null, .null, .null, .null, .null, .null, .int 0, .int 0, .int 0, .null, .null, .null, .null, .int 0, .int 0, .int 0, .int 0, .int 0, .int 0, .null, .null, .null, .null, .null, .null, .null, .null, .null, .null, .null, .null, .int 0, .null, .null, .null, .null, .null, .null, .null, .null, .null, .null, .int 0, .int 0, .int 0, .int 0]))])[k]? = some (aX k, e9) := by rw [List.getElem?_append_left (by rw [hlen]; exact hk)]; exact h9
    refine ⟨fun e => ?_, by rw [z]; exact (hP k _ h8).lt⟩
    have := hD.1 k 73 _ _ h8 (show (VX cy aX st uX ++ [(hm0, .inr (12, [.int 0, .int 0, .null, .null, .null, .null, .null, .null, .int 0, .int 0, .int 0, .int 0, .int 0, .int 0, .int 0, .null, .int 0, .null, .null, .null, .null, .null, .null, .null, .null, .null, .null, .null, .null, .int 0, .int 0, .int 0, .null, .null, .null, .null, .int 0, .int 0, .int 0, .int 0, .int 0, .int 0, .null, .null, .null, .null, .null, .null, .null, .null, .null, .null, .null, .null, .int 0, .null, .null, .null, .null, .null, .null, .null, .null, .null, .null, .int 0, .int 0, .int 0, .int 0]))])[73]? = some (hm0, .inr (12, [.int 0, .int 0, .null, .null, .null, .null, .null, .null, .int 0, .int 0, .int 0, .int 0, .int 0, .int 0, .int 0, .null, .int 0, .null, .null, .null, .null, .null, .null, .null, .null, .null, .null, .null, .null, .int 0, .int 0, .int 0, .null, .null, .null, .null, .int 0, .int 0, .int 0, .int 0, .int 0, .int 0, .null, .null, .null, .null, .null, .null, .null, .null, .null, .null, .null, .null, .int 0, .null, .null, .null, .null, .null, .null, .null, .null, .null, .null, .int 0, .int 0, .int 0, .int 0])) from rfl) (by rw [← z]; exact e)
    omega
  have h0A : s.heap.size ≤ hm0 := hD.2 73 (hm0, .inr (12, [.int 0, .int 0, .null, .null, .null, .null, .null, .null, .int 0, .int 0, .int 0, .int 0, .int 0, .int 0, .int 0, .null, .int 0, .null, .null, .null, .null, .null, .null, .null, .null, .null, .null, .null, .null, .int 0, .int 0, .int 0, .null, .null, .null, .null, .int 0, .int 0, .int 0, .int 0, .int 0, .int 0, .null, .null, .null, .null, .null, .null, .null, .null, .null, .null, .null, .null, .int 0, .null, .null, .null, .null, .null, .null, .null, .null, .null, .null, .int 0, .int 0, .int 0, .int 0])) rfl
  have hPX : va_P D vwCl (VX cy aX st uX) H2 := fun k q hq => hP k q (by
    have hk : k < 73 := (List.getElem?_eq_some_iff.mp hq).1
    rw [List.getElem?_append_left (by rw [hlen]; exact hk)]; exact hq)
  clear hP hD
  refine lv_dup hx hb dL_law_11 rfl ?_
  have hFc : ∀ q, Ax (fun a => a = hm0) H2.size q → (fun q : Nat => s.heap.size ≤ q) q := fun q h => h.elim (fun z => by rw [z]; exact h0A) (fun z => Nat.le_trans hS.1 z)
  refine va_callv (va_runI (As := []) (rest := [.ref hm0]) ⟨hx, hb, hml, hown, hts⟩ (kcX12 l D cy st hm0 H2.size) (cwI 0 hts gL_law_X12_init rfl rfl rfl (hts _ mL_n7) (hts _ mL_n8) (hts _ mL_n9) rfl (by decide +kernel) ⟨Nat.le_of_ble_eq_true rfl, Nat.le_of_ble_eq_true rfl⟩) ⟨fun a U g mk q => by
      obtain ⟨q0, q1, qP, qK⟩ := q
      exact ⟨q0, q1, qP, Kx_call qK⟩, fun U hU hW => ⟨rfl, by rw [hU], by rw [hU]; exact hPc, Kx_warm hW hK⟩⟩ rfl rfl hl.1 rfl (lv_room (Nat.le_of_ble_eq_true rfl)) dL_law_12 ⟨Nat.le_of_ble_eq_true rfl, Nat.le_of_ble_eq_true rfl⟩) hS (fun q _ h => hFc q h) hFc (fun u t H3 locs ht hvm hw hB hz1 hk1 hS => ?_)
  obtain ⟨hP1, hD1⟩ := hB
  rw [ht] at hP1
  obtain ⟨aM, m0, k1, k2⟩ := atX12_V cy st hm0 u
  have hPM := k1 D H3 hP1
  have hDM := k2 _ hD1
  have hJM := VM_J hDM
  have hAM : ∀ q, AM aM q → s.heap.size ≤ q := fun q h => hFc q (VM_in hDM q h)
  have hdis : ∀ q, AM aM q → ¬ AX aX q := fun q h hx9 => (VM_in hDM q h).elim (fun z => (hne q hx9).1 z) (fun z => absurd (hne q hx9).2 (Nat.not_lt.mpr z))
  have hPX : va_P D vwCl (VX cy aX st uX) H3 := hPX.kept fun k q hq => hk1 q.1 (hPX k q hq).lt (fun z => z.elim (fun z => (hne _ (VX_mem hq)).1 z) (fun z => absurd (hPX k q hq).lt (Nat.not_lt.mpr z)))
  clear hP1 hD1 k1 k2 hDM hk1 hz1 hw hvm ht hFc hPc hne
  refine W.cs (cells' := 117) (slots' := 17832) rfl rfl ?_
  refine lv_astore_n (lv' := [(2, .ref hm0), (1, .ref hx0), (0, .ref b)]) hx hb dL_law_15 rfl hl (by decide) rfl (fun ls hl => ?_)
  refine lv_iconst (v := 1) hx hb dL_law_16 (by decide) ?_
  refine va_newaK (atype := .long) (g := F0 m 17 ls [.int 1]) (N := 1) hx hb (hts0 _ arrc_1) rfl dL_law_17 rfl (by decide) rfl (Nat.le_of_ble_eq_true rfl) (Nat.le_of_ble_eq_true rfl) (Nat.le_of_ble_eq_true rfl) rfl (fun H4 cA g1 g2 g3 g4 g5 => ?_)
  obtain ⟨o, ho⟩ : ∃ o, o = H3.size := ⟨_, rfl⟩
  refine W.eq (g2 := F0 m 19 ls [.ref o]) (by rw [ho]) ?_
  have hPX : va_P D vwCl (VX cy aX st uX) H4 := hPX.kept fun k q hq => g3 q.1 (hPX k q hq).lt
  have hPM : va_P D vwCl (VM cy aM st uM) H4 := hPM.kept fun k q hq => g3 q.1 (hPM k q hq).lt
  have hS : va_S (fun q : Nat => s.heap.size ≤ q) s.heap H4 locs := ⟨Nat.le_trans hS.1 (by rw [g2]; omega), fun q h1 h2 => (g3 q (Nat.lt_of_lt_of_le h1 hS.1)).trans (hS.2.1 q h1 h2), hS.2.2⟩
  refine W.cs (cells' := 118) (slots' := 17833) rfl rfl ?_
  refine lv_astore_n (lv' := [(3, .ref o), (2, .ref hm0), (1, .ref hx0), (0, .ref b)]) hx hb dL_law_19 rfl hl (by decide) rfl (fun ls hl => ?_)
  refine lv_iconst (v := 0) hx hb dL_law_20 (by decide) ?_
  refine lv_istore (lv' := [(4, .int 0), (3, .ref o), (2, .ref hm0), (1, .ref hx0), (0, .ref b)]) hx hb dL_law_21 hl (by decide) rfl (fun ls hl => ?_)
  refine lv_iload hx hb dL_law_23 (lv_at hl 0 rfl) ?_
  refine lv_aload_n hx hb dL_law_25 rfl (lv_at hl 4 rfl) ?_
  refine va_slen hx hb hX hbl hbA hS dL_law_26 ?_
  refine lv_bipush (v := 9) hx hb dL_law_27 (by decide) ?_
  refine lv_isub hx hb dL_law_29 ?_
  refine lv_icmp_gt (tgt := 1964) hx hb dL_law_30 (by decide) (fun _ => ?_) (fun h => ?_)
  · refine lv_iconst (v := 1) hx hb dL_law_1964 (by decide) ?_
    refine va_forget (fun q hq => hS.2.2 q hq) ?_
    refine W.widen (k := 600002) (n := 7302232) (by decide) (by decide) ?_
    exact lw_ret hx hb hr hlocks dL_law_1965
  · have h9 : L = 9 := by
      rcases Nat.lt_or_ge L 9 with z | z
      · exact absurd ((by decide +kernel : ∀ L, L < 9 → Int32.ofNat L - 9 < 0) L z) h
      · omega
    subst h9
    obtain ⟨y0, hy0⟩ : ∃ y, xs (0 : Int32).toNatClampNeg = y := ⟨_, rfl⟩
    refine lv_aload_n hx hb dL_law_33 rfl (lv_at hl 4 rfl) ?_
    refine lv_iload hx hb dL_law_34 (lv_at hl 0 rfl) ?_
    refine sld9 (v := y0) hx hb hX hbl hbA hS (by show ¬ _; decide) hy0 dL_law_36 ?_
    refine lv_bipush (v := 63) hx hb dL_law_37 (by decide) ?_
    refine lv_iand hx hb dL_law_39 ?_
    have hl9 : lv_has ls 7 [(0, .ref b), (1, .ref hx0), (2, .ref hm0), (3, .ref o), (4, .int 0)] := lv_sub hl [4, 3, 2, 1, 0] rfl
    exact law_switch l ⟨C0, hK, hJX, hJM, hAX, hAM, hdis, hPX, hPM, hS⟩ (by rw [e0, m0]; exact hl9) hfl hE _
