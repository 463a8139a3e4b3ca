theorem zdL_law_0 : (and (and (and (and (zk cL_law 0 (.new 8) 3) (zk cL_law 3 (.dup) 1)) (and (zk cL_law 4 (.invokespecial 15) 3) (zk cL_law 7 (.astore_n 1) 1))) (and (and (zk cL_law 8 (.new 16) 3) (zk cL_law 11 (.dup) 1)) (zk cL_law 12 (.invokespecial 18) 3))) (and (and (and (zk cL_law 15 (.astore_n 2) 1) (zk cL_law 16 (.iconst 1) 1)) (zk cL_law 17 (.newarray .long) 2)) (and (and (zk cL_law 19 (.astore_n 3) 1) (zk cL_law 20 (.iconst 0) 1)) (zk cL_law 21 (.istore 4) 2)))) = true := by decide +kernel
theorem dL_law_0 : decode cL_law 0 = .ok (.new 8, 3) := zk_of (zk_l (zk_l (zk_l (zk_l zdL_law_0))))
theorem dL_law_3 : decode cL_law 3 = .ok (.dup, 1) := zk_of (zk_r (zk_l (zk_l (zk_l zdL_law_0))))
theorem dL_law_4 : decode cL_law 4 = .ok (.invokespecial 15, 3) := zk_of (zk_l (zk_r (zk_l (zk_l zdL_law_0))))
theorem dL_law_7 : decode cL_law 7 = .ok (.astore_n 1, 1) := zk_of (zk_r (zk_r (zk_l (zk_l zdL_law_0))))
theorem dL_law_8 : decode cL_law 8 = .ok (.new 16, 3) := zk_of (zk_l (zk_l (zk_r (zk_l zdL_law_0))))
theorem dL_law_11 : decode cL_law 11 = .ok (.dup, 1) := zk_of (zk_r (zk_l (zk_r (zk_l zdL_law_0))))
theorem dL_law_12 : decode cL_law 12 = .ok (.invokespecial 18, 3) := zk_of (zk_r (zk_r (zk_l zdL_law_0)))
theorem dL_law_15 : decode cL_law 15 = .ok (.astore_n 2, 1) := zk_of (zk_l (zk_l (zk_l (zk_r zdL_law_0))))
theorem dL_law_16 : decode cL_law 16 = .ok (.iconst 1, 1) := zk_of (zk_r (zk_l (zk_l (zk_r zdL_law_0))))
theorem dL_law_17 : decode cL_law 17 = .ok (.newarray .long, 2) := zk_of (zk_r (zk_l (zk_r zdL_law_0)))
theorem dL_law_19 : decode cL_law 19 = .ok (.astore_n 3, 1) := zk_of (zk_l (zk_l (zk_r (zk_r zdL_law_0))))
theorem dL_law_20 : decode cL_law 20 = .ok (.iconst 0, 1) := zk_of (zk_r (zk_l (zk_r (zk_r zdL_law_0))))
theorem dL_law_21 : decode cL_law 21 = .ok (.istore 4, 2) := zk_of (zk_r (zk_r (zk_r zdL_law_0)))
set_option maxRecDepth 20000 in
theorem ggL_law_X11_init : GoodIn wsL_law wsX11_init := goodIn_r _ [10, 11, 12, 13, 14, 15, 16, 17, 18, 19, 20, 21, 22, 23, 24, 25, 26, 27, 28, 29, 30, 31, 32, 33, 34, 35, 36, 37, 38, 39, 40, 41, 42, 43, 44, 45, 46, 47, 48, 49, 50, 51, 52, 53, 54, 55, 56, 57, 58, 59, 60, 61, 62, 63, 64, 65, 66, 67, 68, 69, 70, 71, 72, 73, 74, 75, 76, 77, 78, 79, 80, 81, 82, 83, 84, 85, 86, 87, 88, 89, 90, 91, 92, 93, 94, 95, 96, 97, 98, 99, 100, 101, 102, 103, 104, 105, 106, 107, 108, 109, 110, 111, 112, 113, 114, 115, 116, 117, 118, 119, 120, 121, 122, 123, 124, 125, 126, 127, 128, 6, 129, 130, 131, 132, 133, 134, 135, 136, 137, 138, 139, 140, 141, 142, 143, 144, 145, 146, 147, 148, 149, 150, 151, 152, 153, 154, 155, 156, 157, 158, 159, 160, 161, 162, 163, 164, 165, 166, 167, 168, 169, 170, 171, 172, 173, 174, 175, 176, 177, 178, 179, 180, 181, 182, 1527, 1528, 1445, 1446, 1447, 1448, 1449, 1450, 1451, 1452, 1453, 1454, 1455, 1456, 1457, 1529, 1530, 1531, 1532, 1533, 1534, 1535, 1536, 1537, 1538, 1539, 1540, 1541, 1542, 1543, 1544, 1545, 1546, 1547, 1548, 1549, 1550, 1551, 1552, 1553, 1554, 1555, 1556, 1557, 1558, 1559, 1560, 1561, 1562, 1563, 1564, 1565, 1566, 1567, 1568, 1569, 1570, 1571, 1572, 1573, 1574, 1575, 1576, 1577, 1578, 1579, 1580, 1581, 1582, 1583, 1584, 1585, 1586, 1587, 1588, 1589, 1590, 1591, 1592, 1593, 1594, 1595, 1596, 1597, 1598, 1599, 1600, 1601, 1602, 1603, 1604, 1605, 1606, 1607, 1608, 1609, 1610, 1611, 1612, 1613, 1614, 1615, 1616, 1617, 1618, 1619, 1620, 1621, 1622, 1623, 1624, 1625, 1626, 1627, 1628, 1629, 1630, 1631, 1632, 1633] rfl (by decide +kernel)
set_option maxRecDepth 20000 in
theorem gL_law_X11_init : GoodIn wsL_law (wsX11_init) := ggL_law_X11_init
set_option maxRecDepth 20000 in
theorem ggL_law_X12_init : GoodIn wsL_law wsX12_init := goodIn_r _ [185, 186, 12, 13, 187, 188, 189, 61, 190, 191, 192, 193, 194, 195, 196, 197, 198, 199, 200, 201, 202, 203, 204, 205, 206, 207, 208, 209, 210, 6, 211, 212, 106, 213, 214, 215, 216, 217, 218, 219, 220, 221, 222, 223, 224, 225, 226, 227, 228, 229, 230, 231, 232, 1458, 1459, 1460, 1461, 1462, 1463, 1464, 1465, 1466, 1467, 1468, 1469, 1470, 1471, 1472, 1473, 1474, 1475, 1476, 1477, 1478, 1479, 1480, 1481, 1482, 1483, 1484, 1485, 1486, 1487, 1488, 1489, 1490, 1491, 1492, 1493, 1494, 1495, 1496, 1497, 1498, 1499, 1500, 1501, 1502, 1503, 1504, 1505, 1506, 1507, 1508, 1509, 1510, 1511, 1512, 1513, 1514, 1515, 1516, 1517, 1518, 1519, 1520, 1521, 1522, 1523, 1524, 1525, 1526] rfl (by decide +kernel)
set_option maxRecDepth 20000 in
theorem gL_law_X12_init : GoodIn wsL_law (wsX12_init) := ggL_law_X12_init
theorem mL_n0 : Cond.classLink RL 8 RX11 ∈ wsL_law := by decide +kernel
theorem mL_n1 : Cond.instantiable RX11 13 ∈ wsL_law := by decide +kernel
theorem mL_n2 : Cond.initialized RX11 ∈ wsL_law := by decide +kernel
theorem mL_n3 : Cond.methodLink RL 15 yX11_init ∈ wsL_law := by decide +kernel
theorem mL_n4 : Cond.instanceMethod yX11_init ∈ wsL_law := by decide +kernel
theorem mL_n5 : Cond.classLink RL 16 RX12 ∈ wsL_law := by decide +kernel
theorem mL_n6 : Cond.instantiable RX12 69 ∈ wsL_law := by decide +kernel
theorem mL_n7 : Cond.initialized RX12 ∈ wsL_law := by decide +kernel
theorem mL_n8 : Cond.methodLink RL 18 yX12_init ∈ wsL_law := by decide +kernel
theorem mL_n9 : Cond.instanceMethod yX12_init ∈ wsL_law := by decide +kernel
set_option maxHeartbeats 8000000 in
set_option maxRecDepth 100000 in
theorem whole_start {p : Program} {e : Env} {s : State} {m : MethodId} {below : List Frame} {meth : Method} {c : Code} (l : Launch) (hfl : l.stackTraces = false) {b L : Nat} {xs : Nat → Int32} (hL : L ≤ 4608) (C0 : lw_At p s m meth c b L xs) : W p l e room_1 s m #[Value.ref b] below meth c s.heap [] 0 0 (lw_Z below #[Value.ref b] s) (entryFrame m ([Value.ref b] : List Value).toArray 7) := by
  obtain ⟨hx, hb, hr, hml, hown, hts0, hX, hbl, hlocks, hgv⟩ := id C0
  have hts : ∀ w ∈ wsL_law, w.before #[Value.ref b] s = true := fun w h => hts0 w (wsL_law_in w h)
  have hA : ∀ q : Nat, s.heap.size ≤ q → (fun q : Nat => s.heap.size ≤ q) q := fun _ h => h
  have hbA : ¬ (fun q : Nat => s.heap.size ≤ q) b := Nat.not_le.mpr hbl
  obtain ⟨D, cy, st, hst, hK⟩ := start_Y hts0 hgv
  have hA0 : ∀ q, (fun q : Nat => s.heap.size ≤ q) q → st 100 ≤ q := fun q h => by rw [hst]; exact h
  have hSE : (fun q => st 100 ≤ q) = (fun q : Nat => s.heap.size ≤ q) := by rw [hst]
  have hO : va_AO "HissHorn$Text" s := va_AO.of (hts0 _ arro)
  have hzs : ∀ k, k < 7 → Zs (fun q : Nat => s.heap.size ≤ q) (st k) (zN k) s := fun k hk => by
    have h9 := hK.2.2.2.2.2 k hk
    rw [hSE] at h9
    exact ⟨h9.1, h9.2.1, _, _, h9.2.2.1, h9.2.2.2⟩
  have hZ0 : Zs (fun q : Nat => s.heap.size ≤ q) (st 0) 6 s := hzs 0 (by omega)
  have hZ1 : Zs (fun q : Nat => s.heap.size ≤ q) (st 1) 2 s := hzs 1 (by omega)
  have hZ2 : Zs (fun q : Nat => s.heap.size ≤ q) (st 2) 5 s := hzs 2 (by omega)
  clear hzs
  have hZc := start_C hts0 hgv
  have hE := start_E hts0 hgv
  have hCL : CLn s := va_Nw.of rfl (hts0 _ cast_c)
  have hS : va_S (fun q : Nat => s.heap.size ≤ q) s.heap s.heap [] := va_S.rf
  have hP : va_P D vwCl [] s.heap := fun k q h => by simp at h
  have hD : va_D (fun q : Nat => s.heap.size ≤ q) [] := ⟨fun i j p q h => by simp at h, fun k q h => by simp at h⟩
  have hl := lv_entry ([.ref b]) (n := 7) (Nat.le_of_ble_eq_true rfl)
  rw [lg_entry_eq]
  generalize (lg_sl ([.ref b]) ++ List.replicate (7 - (lg_sl ([.ref b])).length) Slot.unset).toArray = ls at hl ⊢
  have hl : lv_has ls 7 [(0, .ref b)] := hl
  refine va_new (ci := 11) (fs := [.null, .null, .null, .null, .null, .null, .null, .null, .null, .null, .null, .null, .int 0]) (C := RX11) (T := TX11) (N := 13) hx hb hts0 inX11 tyX11 tyX11_ok hown (hts _ mL_n0) (hts _ mL_n1) (hts _ mL_n2) hK.1 hP hD hS hA rfl (by decide) (Nat.le_of_ble_eq_true rfl) (Nat.le_of_ble_eq_true rfl) dL_law_0 (fun hx0 H hP hD hS => ?_)
  have hP : va_P D vwCl [(hx0, .inr (11, [.null, .null, .null, .null, .null, .null, .null, .null, .null, .null, .null, .null, .int 0]))] H := hP
  have hD : va_D (fun q : Nat => s.heap.size ≤ q) [(hx0, .inr (11, [.null, .null, .null, .null, .null, .null, .null, .null, .null, .null, .null, .null, .int 0]))] := hD
  refine lv_dup hx hb dL_law_3 rfl ?_
  have h0A : s.heap.size ≤ hx0 := hD.2 0 _ rfl
  have hFc : ∀ q, Ax (fun a => a = hx0) H.size q → (fun q : Nat => s.heap.size ≤ q) q := fun q h => h.elim (fun z => by rw [z]; exact h0A) (fun z => Nat.le_trans hS.1 z)
  refine va_callv (va_runI (As := []) (rest := [.ref hx0]) ⟨hx, hb, hml, hown, hts⟩ (kcX11 l D cy st hx0 H.size (by rw [hst]; exact h0A)) (cwI 0 hts gL_law_X11_init rfl rfl rfl (hts _ mL_n2) (hts _ mL_n3) (hts _ mL_n4) rfl (by decide +kernel) ⟨Nat.le_of_ble_eq_true rfl, Nat.le_of_ble_eq_true rfl⟩) ⟨fun a U g mk q => by
      obtain ⟨q0, q1, qP, qK, qO, qZ0, qZ1, qZ2, qC⟩ := q
      exact ⟨q0, q1, qP, Ky_call qK, va_AO.moved (u := U) (U := U.calling g mk a) (Vm.Alike.refl U.vm) qO, Zs_mv (U := U.calling g mk a) qZ0 (Vm.Alike.refl U.vm) (fun _ _ _ => rfl) (fun _ _ h => h), Zs_mv (U := U.calling g mk a) qZ1 (Vm.Alike.refl U.vm) (fun _ _ _ => rfl) (fun _ _ h => h), Zs_mv (U := U.calling g mk a) qZ2 (Vm.Alike.refl U.vm) (fun _ _ _ => rfl) (fun _ _ h => h), Zc_mv (U := U.calling g mk a) qC (Vm.Alike.refl U.vm) (fun _ _ _ => rfl) (fun _ _ h => h)⟩, fun U hU hW => ⟨rfl, by rw [hU], by rw [hU]; exact hP, Ky_mA hA0 hS hU hW hK, va_AO.moved hW.alike hO, Zs_mv hZ0 hW.alike (fun q h1 h2 => by rw [hU]; exact hS.2.1 q h1 h2) (fun q _ h => hFc q h), Zs_mv hZ1 hW.alike (fun q h1 h2 => by rw [hU]; exact hS.2.1 q h1 h2) (fun q _ h => hFc q h), Zs_mv hZ2 hW.alike (fun q h1 h2 => by rw [hU]; exact hS.2.1 q h1 h2) (fun q _ h => hFc q h), Zc_mv hZc hW.alike (fun q h1 h2 => by rw [hU]; exact hS.2.1 q h1 h2) (fun q _ h => hFc q h)⟩⟩ rfl rfl hl.1 rfl (lv_room (Nat.le_of_ble_eq_true rfl)) dL_law_4 ⟨Nat.le_of_ble_eq_true rfl, Nat.le_of_ble_eq_true rfl⟩) hS (fun q _ h => hFc q h) hFc (fun u t H1 locs ht hvm hw hB hz1 hk1 hS => ?_)
  obtain ⟨hP1, hD1⟩ := hB
  rw [ht] at hP1
  obtain ⟨lX, e0, k1, k2⟩ := atX11_V cy st hx0 u
  have hPX := k1 D H1 hP1
  have hDX := k2 _ hD1
  have hAXi : ∀ q, AXi (adX lX 0) q → s.heap.size ≤ q := fun q h => hFc q (VX_inI hDX q h)
  have hDS : va_D (fun q : Nat => s.heap.size ≤ q) (VX cy (adX lX 0) st uX) := D_mono hFc hDX
  clear hP1 hD1 k1 k2 hDX hk1 hz1 hw hvm ht hP hD hFc
  refine W.cs (cells' := 73) (slots' := 6533) rfl rfl ?_
  refine lv_astore_n (lv' := [(1, .ref hx0), (0, .ref b)]) hx hb dL_law_7 rfl hl (by decide) rfl (fun ls hl => ?_)
  refine va_new (ci := 12) (fs := [.int 0, .int 0, .null, .null, .null, .null, .null, .null, .int 0, .int 0, .int 0, .int 0, .int 0, .int 0, .int 0, .null, .int 0, .null, .null, .null, .null, .null, .null, .null, .null, .null, .null, .null, .null, .int 0, .int 0, .int 0, .null, .null, .null, .null, .int 0, .int 0, .int 0, .int 0, .int 0, .int 0, .null, .null, .null, .null, .null, .null, .null, .null, .null, .null, .null, .null, .int 0, .null, .null, .null, .null, .null, .null, .null, .null, .null, .null, .int 0, .int 0, .int 0, .int 0]) (C := RX12) (T := TX12) (N := 69) hx hb hts0 inX12 tyX12 tyX12_ok hown (hts _ mL_n5) (hts _ mL_n6) (hts _ mL_n7) hK.1 hPX hDS hS hA rfl (by decide) (Nat.le_of_ble_eq_true rfl) (Nat.le_of_ble_eq_true rfl) dL_law_8 (fun hm0 H2 hP hD hS => ?_)
  have hlen : (VX cy (adX lX 0) st uX).length = 73 := VX_len
  have h73 : (VX cy (adX lX 0) st uX ++ [(hm0, .inr (12, [.int 0, .int 0, .null, .null, .null, .null, .null, .null, .int 0, .int 0, .int 0, .int 0, .int 0, .int 0, .int 0, .null, .int 0, .null, .null, .null, .null, .null, .null, .null, .null, .null, .null, .null, .null, .int 0, .int 0, .int 0, .null, .null, .null, .null, .int 0, .int 0, .int 0, .int 0, .int 0, .int 0, .null, .null, .null, .null, .null, .null, .null, .null, .null, .null, .null, .null, .int 0, .null, .null, .null, .null, .null, .null, .null, .null, .null, .null, .int 0, .int 0, .int 0, .int 0]))])[73]? = some (hm0, .inr (12, [.int 0, .int 0, .null, .null, .null, .null, .null, .null, .int 0, .int 0, .int 0, .int 0, .int 0, .int 0, .int 0, .null, .int 0, .null, .null, .null, .null, .null, .null, .null, .null, .null, .null, .null, .null, .int 0, .int 0, .int 0, .null, .null, .null, .null, .int 0, .int 0, .int 0, .int 0, .int 0, .int 0, .null, .null, .null, .null, .null, .null, .null, .null, .null, .null, .null, .null, .int 0, .null, .null, .null, .null, .null, .null, .null, .null, .null, .null, .int 0, .int 0, .int 0, .int 0])) := by rw [List.getElem?_append_right (by rw [hlen]; exact Nat.le_refl _), hlen]; rfl
  have hPc : va_P D vwCl [(hm0, .inr (12, [.int 0, .int 0, .null, .null, .null, .null, .null, .null, .int 0, .int 0, .int 0, .int 0, .int 0, .int 0, .int 0, .null, .int 0, .null, .null, .null, .null, .null, .null, .null, .null, .null, .null, .null, .null, .int 0, .int 0, .int 0, .null, .null, .null, .null, .int 0, .int 0, .int 0, .int 0, .int 0, .int 0, .null, .null, .null, .null, .null, .null, .null, .null, .null, .null, .null, .null, .int 0, .null, .null, .null, .null, .null, .null, .null, .null, .null, .null, .int 0, .int 0, .int 0, .int 0]))] H2 := fun k q hq => by rw [oat hq]; exact hP 73 _ h73
  have hne : ∀ q, AXi (adX lX 0) q → q ≠ hm0 ∧ q < H2.size := fun q ⟨k, hk, z⟩ => by
    obtain ⟨e9, h9⟩ := VX_lk (cy := cy) (ad := adX lX 0) (st := st) (u := uX) (k := k) (by show k < 73 + 2 * 0; omega)
    have h8 : (VX cy (adX lX 0) st uX ++ [(hm0, .inr (12, [.int 0, .int 0, .null, .null, .null, .null, .null, .null, .int 0, .int 0, .int 0, .int 0, .int 0, .int 0, .int 0, .null, .int 0, .null, .null, .null, .null, .null, .null, .null, .null, .null, .null, .null, .null, .int 0, .int 0, .int 0, .null, .null, .null, .null, .int 0, .int 0, .int 0, .int 0, .int 0, .int 0, .null, .null, .null, .null, .null, .null, .null, .null, .null, .null, .null, .null, .int 0, .null, .null, .null, .null, .null, .null, .null, .null, .null, .null, .int 0, .int 0, .int 0, .int 0]))])[k]? = some (adX lX 0 k, e9) := by rw [List.getElem?_append_left (by rw [hlen]; exact hk)]; exact h9
    refine ⟨fun e => ?_, by rw [z]; exact (hP k _ h8).lt⟩
    have := hD.1 k 73 _ _ h8 h73 (by rw [← z]; exact e)
    omega
  have h0A : s.heap.size ≤ hm0 := hD.2 73 _ h73
  have hPX : va_P D vwCl (VX cy (adX lX 0) st uX) H2 := fun k q hq => hP k q (by
    have hk : k < (VX cy (adX lX 0) st uX).length := (List.getElem?_eq_some_iff.mp hq).1
    rw [List.getElem?_append_left hk]; exact hq)
  clear hP hD h73
  refine lv_dup hx hb dL_law_11 rfl ?_
  have hFc : ∀ q, Ax (fun a => a = hm0) H2.size q → (fun q : Nat => s.heap.size ≤ q) q := fun q h => h.elim (fun z => by rw [z]; exact h0A) (fun z => Nat.le_trans hS.1 z)
  refine va_callv (va_runI (As := []) (rest := [.ref hm0]) ⟨hx, hb, hml, hown, hts⟩ (kcX12 l D cy st hm0 H2.size (by rw [hst]; exact h0A)) (cwI 0 hts gL_law_X12_init rfl rfl rfl (hts _ mL_n7) (hts _ mL_n8) (hts _ mL_n9) rfl (by decide +kernel) ⟨Nat.le_of_ble_eq_true rfl, Nat.le_of_ble_eq_true rfl⟩) ⟨fun a U g mk q => by
      obtain ⟨q0, q1, qP, qK⟩ := q
      exact ⟨q0, q1, qP, Ky_call qK⟩, fun U hU hW => ⟨rfl, by rw [hU], by rw [hU]; exact hPc, Ky_mA hA0 hS hU hW hK⟩⟩ rfl rfl hl.1 rfl (lv_room (Nat.le_of_ble_eq_true rfl)) dL_law_12 ⟨Nat.le_of_ble_eq_true rfl, Nat.le_of_ble_eq_true rfl⟩) hS (fun q _ h => hFc q h) hFc (fun u t H3 locs ht hvm hw hB hz1 hk1 hS => ?_)
  obtain ⟨hP1, hD1⟩ := hB
  rw [ht] at hP1
  obtain ⟨lM, m0, k1, k2⟩ := atX12_V cy st hm0 u
  have hPM := k1 D H3 hP1
  have hDM := k2 _ hD1
  have hJM : JM (adM lM 0) st := VM_J hDM (fun q h => hA0 q (hFc q h))
  have hAM : ∀ q, AM (adM lM 0) q → s.heap.size ≤ q := fun q h => hFc q (VM_in hDM q h)
  have hdis0 : ∀ q, AM (adM lM 0) q → ¬ AXi (adX lX 0) q := fun q h hx9 => (VM_in hDM q h).elim (fun z => (hne q hx9).1 z) (fun z => absurd (hne q hx9).2 (Nat.not_lt.mpr z))
  have hPX : va_P D vwCl (VX cy (adX lX 0) st uX) H3 := hPX.kept fun k q hq => hk1 q.1 (hPX k q hq).lt (fun z => z.elim (fun z => (hne _ (VX_memI hq)).1 z) (fun z => absurd (hPX k q hq).lt (Nat.not_lt.mpr z)))
  clear hP1 hD1 k1 k2 hDM hk1 hz1 hw hvm ht hFc hPc hne
  refine W.cs (cells' := 117) (slots' := 17832) rfl rfl ?_
  refine lv_astore_n (lv' := [(2, .ref hm0), (1, .ref hx0), (0, .ref b)]) hx hb dL_law_15 rfl hl (by decide) rfl (fun ls hl => ?_)
  refine lv_iconst (v := 1) hx hb dL_law_16 (by decide) ?_
  refine va_newaK (atype := .long) (g := F0 m 17 ls [.int 1]) (N := 1) hx hb (hts0 _ arrc_1) rfl dL_law_17 rfl (by decide) rfl (Nat.le_of_ble_eq_true rfl) (Nat.le_of_ble_eq_true rfl) (Nat.le_of_ble_eq_true rfl) rfl (fun H4 cA g1 g2 g3 g4 g5 => ?_)
  obtain ⟨o, ho⟩ : ∃ o, o = H3.size := ⟨_, rfl⟩
  refine W.eq (g2 := F0 m 19 ls [.ref o]) (by rw [ho]) ?_
  have ecy : cA = cy 1 := Option.some.inj (g5.symm.trans (hK.1.2 1 _ rfl).2)
  have hPo : va_P D vwCl [(o, .inl (cy 1, 1, .inr (.inl (fun _ => 0))))] H4 := fun k q hq => by
    rw [oat hq]
    show H4[o]? = some (vp_cell (cy 1) (1, .inr (.inl (fun _ => 0))))
    rw [vp_cell_l, ho, ← ecy]
    exact g1
  have hltX : ∀ q, AXi (adX lX 0) q → q < H3.size := fun q ⟨k, hk, z⟩ => by
    obtain ⟨e9, h9⟩ := VX_lk (cy := cy) (ad := adX lX 0) (st := st) (u := uX) (k := k) (by show k < 73 + 2 * 0; omega)
    rw [z]
    exact (hPX k _ h9).lt
  have hltM : ∀ q, AM (adM lM 0) q → q < H3.size := AM_lt hPM
  have hPX : va_P D vwCl (VX cy (adX lX 0) st uX) H4 := hPX.kept fun k q hq => g3 q.1 (hPX k q hq).lt
  have hPM : va_P D vwCl (VM cy (adM lM 0) st uM) H4 := hPM.kept fun k q hq => g3 q.1 (hPM k q hq).lt
  have hH4 : H3.size < H4.size := by rw [g2]; exact Nat.lt_succ_self _
  have hsz : s.heap.size ≤ H3.size := hS.1
  have hS : va_S (fun q : Nat => s.heap.size ≤ q) s.heap H4 locs := ⟨Nat.le_trans hS.1 (Nat.le_of_lt hH4), fun q h1 h2 => (g3 q (Nat.lt_of_lt_of_le h1 hS.1)).trans (hS.2.1 q h1 h2), hS.2.2⟩
  have hJX : JX (adX lX H4.size) st := adX_J hDS hA0 (by rw [hst]; exact hS.1) (fun a h => Nat.lt_trans (hltX a h) hH4)
  have hAX : ∀ q, AX (adX lX H4.size) q → s.heap.size ≤ q := fun q h => (adX_A h).elim (hAXi q) (fun z => Nat.le_trans hS.1 z)
  have hdis : ∀ q, AM (adM lM 0) q → ¬ AX (adX lX H4.size) q := fun q h z => (adX_A z).elim (hdis0 q h) (fun z => absurd (Nat.lt_trans (hltM q h) hH4) (Nat.not_lt.mpr z))
  have hoX : ¬ AX (adX lX H4.size) o := fun z => (adX_A z).elim (fun z => by have := hltX o z; rw [ho] at this; exact Nat.lt_irrefl _ this) (fun z => by rw [ho] at z; exact absurd hH4 (Nat.not_lt.mpr z))
  have hoM : ¬ AM (adM lM 0) o := fun z => by have := hltM o z; rw [ho] at this; exact Nat.lt_irrefl _ this
  have hso : s.heap.size ≤ o := by rw [ho]; exact hsz
  have hPX : va_P D vwCl (VX cy (adX lX H4.size) st uX) H4 := by rw [VX_z]; exact hPX
  have e00 : adX lX H4.size 0 = hx0 := by rw [adX_lt (by decide)]; exact e0
  have m00 : adM lM 0 0 = hm0 := m0
  clear g1 g2 g3 g4 g5 hltX hltM hdis0 hAXi hDS ho
  refine W.cs (cells' := 118) (slots' := 17833) rfl rfl ?_
  refine lv_astore_n (lv' := [(3, .ref o), (2, .ref hm0), (1, .ref hx0), (0, .ref b)]) hx hb dL_law_19 rfl hl (by decide) rfl (fun ls hl => ?_)
  refine lv_iconst (v := 0) hx hb dL_law_20 (by decide) ?_
  refine lv_istore (lv' := [(4, .int 0), (3, .ref o), (2, .ref hm0), (1, .ref hx0), (0, .ref b)]) hx hb dL_law_21 hl (by decide) rfl (fun ls hl => ?_)
  have hl9 : lv_has ls 7 [(0, .ref b), (1, .ref hx0), (2, .ref (adM lM 0 0)), (3, .ref o), (4, .int 0)] := by rw [m00]; exact lv_sub hl [4, 3, 2, 1, 0] rfl
  have hF : LF p s m meth c b L xs D cy st (adM lM 0) o := ⟨C0, hL, hK, hJM, hAM, hoM, hso, hst, hE, hCL⟩
  have hI : LI s D cy st (adM lM 0) o hx0 (adX lX H4.size) uX uM (fun _ => 0) H4 locs := ⟨e00, hJX, hAX, hdis, hoX, hPX, hPM, hPo, hS, IX_new, IM_new, EvM_new, ⟨rfl, rfl, rfl, rfl, rfl, rfl⟩, TieR_0, TieT_0, ⟨rfl, rfl, rfl⟩, TieP_0⟩
  exact law_loop l hfl hF 512 0 _ _ _ _ _ _ _ 118 17833 hI (by decide) (by show (0 : Int) ≤ (L : Int) + 9; omega) (by show (L : Int) ≤ (0 : Int) + 9 * ((512 : Nat) : Int) + 8; omega) (by decide) (by decide) hl9
