def mdX12_say_0 : MD := ([0, 2, 4, 5, 6, 7, 8, 9, 10, 11, 16, 17, 18, 19, 20], [5, 16, 17, 18], [], [])
abbrev qX12_say_0 (u : SX) (q : Int32 × SX) : Prop := StM mdX12_say_0 u q.2 ∧ ((-1) ≤ q.1.toInt ∧ q.1.toInt ≤ 120) ∧ (True)
set_option maxHeartbeats 400000 in
set_option maxRecDepth 10000 in
theorem tGX12_say_0_106 (u0 : SX) (g25 : Int) (g68 : Int) {k68 : Int32 → Int32 → Int32 → Int32 → Int32 → SX → Option (Int32 × SX)} (hk68 : ∀ (z1 : Int32) (z2 : Int32) (z3 : Int32) (z4 : Int32) (z5 : Int32) (u : SX), (StM mdX12_say_0 u0 u) → (0 ≤ z1.toInt ∧ z1.toInt ≤ 11) → (0 ≤ z2.toInt ∧ z2.toInt ≤ 120) → (0 ≤ z3.toInt ∧ z3.toInt ≤ 1) → (0 ≤ z5.toInt ∧ z5.toInt ≤ 30) → (g25 ≤ z2.toInt) → (g68 < z5.toInt) → Tot (k68 z1 z2 z3 z4 z5 u) (qX12_say_0 u0)) (z1 : Int32) (z2 : Int32) (z3 : Int32) (z5 : Int32) (y0 : Int32) (y1 : Int32) (u : SX) (hs_u : StM mdX12_say_0 u0 u) (h0 : 0 ≤ z1.toInt ∧ z1.toInt ≤ 11) (h1 : 0 ≤ z2.toInt ∧ z2.toInt ≤ 120) (h2 : 0 ≤ z3.toInt ∧ z3.toInt ≤ 1) (h3 : 0 ≤ z5.toInt ∧ z5.toInt ≤ 29) (h4 : 0 ≤ y0.toInt ∧ y0.toInt ≤ 1) (h5 : g25 ≤ z2.toInt) (h6 : g68 ≤ z5.toInt) : Tot (GX12_say_0_106 k68 z1 z2 z3 z5 y0 y1 u) (qX12_say_0 u0) := by
  unfold GX12_say_0_106
  refine Tot_lt (fun v11 e_v11 => ?_)
  have : (z5 + 1).toInt = z5.toInt + (1 : Int) := addc_t (by decide) (by omega) (by omega)
  exact hk68 z1 z2 z3 v11 (z5 + 1) u hs_u ⟨by omega, by omega⟩ ⟨by omega, by omega⟩ ⟨by omega, by omega⟩ ⟨by omega, by omega⟩ (by omega) (by omega)
set_option maxHeartbeats 400000 in
set_option maxRecDepth 10000 in
theorem tGX12_say_0_105 (u0 : SX) (g25 : Int) (g68 : Int) {k68 : Int32 → Int32 → Int32 → Int32 → Int32 → SX → Option (Int32 × SX)} (hk68 : ∀ (z1 : Int32) (z2 : Int32) (z3 : Int32) (z4 : Int32) (z5 : Int32) (u : SX), (StM mdX12_say_0 u0 u) → (0 ≤ z1.toInt ∧ z1.toInt ≤ 11) → (0 ≤ z2.toInt ∧ z2.toInt ≤ 120) → (0 ≤ z3.toInt ∧ z3.toInt ≤ 1) → (0 ≤ z5.toInt ∧ z5.toInt ≤ 30) → (g25 ≤ z2.toInt) → (g68 < z5.toInt) → Tot (k68 z1 z2 z3 z4 z5 u) (qX12_say_0 u0)) (z1 : Int32) (z2 : Int32) (z3 : Int32) (z5 : Int32) (y0 : Int32) (u : SX) (hs_u : StM mdX12_say_0 u0 u) (h0 : 0 ≤ z1.toInt ∧ z1.toInt ≤ 11) (h1 : 0 ≤ z2.toInt ∧ z2.toInt ≤ 120) (h2 : 0 ≤ z3.toInt ∧ z3.toInt ≤ 1) (h3 : 0 ≤ z5.toInt ∧ z5.toInt ≤ 29) (h4 : g25 ≤ z2.toInt) (h5 : g68 ≤ z5.toInt) : Tot (GX12_say_0_105 k68 z1 z2 z3 z5 y0 u) (qX12_say_0 u0) := by
  unfold GX12_say_0_105
  exact tGX12_say_0_106 u0 g25 g68 hk68 z1 z2 z3 z5 0 y0 u hs_u ⟨by omega, by omega⟩ ⟨by omega, by omega⟩ ⟨by omega, by omega⟩ ⟨by omega, by omega⟩ (by show 0 ≤ (0 : Int) ∧ (0 : Int) ≤ 1; omega) (by omega) (by omega)
set_option maxHeartbeats 400000 in
set_option maxRecDepth 10000 in
theorem tLX12_say_0_68 (u0 : SX) (g25 : Int) {k115 : Int32 → Int32 → Int32 → Int32 → SX → Option (Int32 × SX)} (hk115 : ∀ (z1 : Int32) (z2 : Int32) (z3 : Int32) (z4 : Int32) (u : SX), (StM mdX12_say_0 u0 u) → (0 ≤ z1.toInt ∧ z1.toInt ≤ 11) → (0 ≤ z2.toInt ∧ z2.toInt ≤ 120) → (0 ≤ z3.toInt ∧ z3.toInt ≤ 1) → (g25 ≤ z2.toInt) → Tot (k115 z1 z2 z3 z4 u) (qX12_say_0 u0)) : ∀ (n : Nat) (z1 : Int32) (z2 : Int32) (z3 : Int32) (z4 : Int32) (z5 : Int32) (u : SX), (StM mdX12_say_0 u0 u) → (0 ≤ z1.toInt ∧ z1.toInt ≤ 11) → (0 ≤ z2.toInt ∧ z2.toInt ≤ 120) → (0 ≤ z3.toInt ∧ z3.toInt ≤ 1) → (0 ≤ z5.toInt ∧ z5.toInt ≤ 30) → (g25 ≤ z2.toInt) → (30 - z5.toInt < (n : Int)) → Tot (LX12_say_0_68 k115 n z1 z2 z3 z4 z5 u) (qX12_say_0 u0) := by
  intro n
  induction n with
  | zero =>
    intro z1 z2 z3 z4 z5 u hs_u h0 h1 h2 h3 h4 hm
    exfalso
    omega
  | succ n ih =>
    intro z1 z2 z3 z4 z5 u hs_u h0 h1 h2 h3 h4 hm
    rw [LX12_say_0_68]
    have : 0 ≤ (u.1 13).toInt ∧ (u.1 13).toInt ≤ 30 := hs_u.1.1 13
    refine Tot_ite (fun c1356 => ?_) (fun c1356 => ?_)
    · have : (u.1 13).toInt ≤ z5.toInt := leI c1356
      exact hk115 z1 z2 z3 z4 u hs_u ⟨by omega, by omega⟩ ⟨by omega, by omega⟩ ⟨by omega, by omega⟩ (by omega)
    · have : ¬ (u.1 13).toInt ≤ z5.toInt := nleI c1356
      refine Tot_gd (inb_t (by omega) (by omega)) ?_
      have : (-1) ≤ (u.2.1 11 z5.toNatClampNeg).toInt ∧ (u.2.1 11 z5.toNatClampNeg).toInt ≤ 9 := hs_u.1.2.1 11 z5.toNatClampNeg
      refine Tot_ite (fun c1357 => ?_) (fun c1357 => ?_)
      · have : (u.2.1 11 z5.toNatClampNeg).toInt = (-1 : Int) := eqI c1357
        exact tGX12_say_0_105 u0 g25 (z5.toInt) (fun a1358 a1359 a1360 a1361 a1362 w1363 hw1363 p1364 p1365 p1366 p1367 p1368 p1369 => ih a1358 a1359 a1360 a1361 a1362 w1363 hw1363 p1364 p1365 p1366 p1367 p1368 (by omega)) z1 z2 z3 z5 z4 u hs_u ⟨by omega, by omega⟩ ⟨by omega, by omega⟩ ⟨by omega, by omega⟩ ⟨by omega, by omega⟩ (by omega) (by omega)
      · have : ¬ (u.2.1 11 z5.toNatClampNeg).toInt = (-1 : Int) := neI c1357
        refine Tot_gd (inb_t (by omega) (by omega)) ?_
        have : 0 ≤ (u.2.1 15 z5.toNatClampNeg).toInt ∧ (u.2.1 15 z5.toNatClampNeg).toInt ≤ 120 := hs_u.1.2.1 15 z5.toNatClampNeg
        refine Tot_ite (fun c1370 => ?_) (fun c1370 => ?_)
        · have : z2.toInt < (u.2.1 15 z5.toNatClampNeg).toInt := ltI c1370
          exact tGX12_say_0_105 u0 g25 (z5.toInt) (fun a1371 a1372 a1373 a1374 a1375 w1376 hw1376 p1377 p1378 p1379 p1380 p1381 p1382 => ih a1371 a1372 a1373 a1374 a1375 w1376 hw1376 p1377 p1378 p1379 p1380 p1381 (by omega)) z1 z2 z3 z5 z4 u hs_u ⟨by omega, by omega⟩ ⟨by omega, by omega⟩ ⟨by omega, by omega⟩ ⟨by omega, by omega⟩ (by omega) (by omega)
        · have : ¬ z2.toInt < (u.2.1 15 z5.toNatClampNeg).toInt := nltI c1370
          exact tGX12_say_0_106 u0 g25 (z5.toInt) (fun a1383 a1384 a1385 a1386 a1387 w1388 hw1388 p1389 p1390 p1391 p1392 p1393 p1394 => ih a1383 a1384 a1385 a1386 a1387 w1388 hw1388 p1389 p1390 p1391 p1392 p1393 (by omega)) z1 z2 z3 z5 1 z4 u hs_u ⟨by omega, by omega⟩ ⟨by omega, by omega⟩ ⟨by omega, by omega⟩ ⟨by omega, by omega⟩ (by show 0 ≤ (1 : Int) ∧ (1 : Int) ≤ 1; omega) (by omega) (by omega)
set_option maxHeartbeats 400000 in
set_option maxRecDepth 10000 in
theorem tGX12_say_0_172 (u0 : SX) (g25 : Int) {k25 : Int32 → Int32 → SX → Option (Int32 × SX)} (hk25 : ∀ (z1 : Int32) (z2 : Int32) (u : SX), (StM mdX12_say_0 u0 u) → (0 ≤ z1.toInt ∧ z1.toInt ≤ 11) → (0 ≤ z2.toInt ∧ z2.toInt ≤ 121) → (g25 < z2.toInt) → Tot (k25 z1 z2 u) (qX12_say_0 u0)) (z1 : Int32) (z2 : Int32) (z4 : Int32) (y0 : Int32) (y1 : Int32) (u : SX) (hs_u : StM mdX12_say_0 u0 u) (h0 : 0 ≤ z1.toInt ∧ z1.toInt ≤ 11) (h1 : 0 ≤ z2.toInt ∧ z2.toInt ≤ 120) (h2 : 98 ≤ y1.toInt ∧ y1.toInt ≤ 98) (h3 : g25 ≤ z2.toInt) : Tot (GX12_say_0_172 k25 z1 z2 z4 y0 y1 u) (qX12_say_0 u0) := by
  unfold GX12_say_0_172
  refine Tot_gd (inb_t (by omega) (by omega)) ?_
  refine Tot_lt (fun u24 e_u24 => ?_)
  have hs_u24 : StM mdX12_say_0 u0 u24 := by rw [e_u24]; exact StM_sAf hs_u (by decide) rfl rfl (by decide)
  refine Tot_gd (by decide) ?_
  refine Tot_lt (fun u27 e_u27 => ?_)
  have hs_u27 : StM mdX12_say_0 u0 u27 := by rw [e_u27]; exact StM_sAf hs_u24 (by decide) rfl rfl (by decide)
  refine Tot_gd (by decide) ?_
  refine Tot_lt (fun u30 e_u30 => ?_)
  have hs_u30 : StM mdX12_say_0 u0 u30 := by rw [e_u30]; exact StM_sAf hs_u27 (by decide) rfl rfl (by decide)
  refine Tot_bind (tfX12_worthOf_0 2 z1 u30 hs_u30.1 (by show 0 ≤ (2 : Int) ∧ (2 : Int) ≤ 2; omega) ⟨by omega, by omega⟩) (fun q hq => ?_)
  obtain ⟨r32, u33⟩ := q
  have hc_u33 : StM mdX12_worthOf_0 u30 u33 := hq.1
  have hs_u33 : StM mdX12_say_0 u0 u33 := StM_tr hs_u30 hc_u33 (by decide)
  clear hq
  refine Tot_ite (fun c1395 => ?_) (fun c1395 => ?_)
  · have : r32.toInt = (0 : Int) := eqI c1395
    have : (z2 + 1).toInt = z2.toInt + (1 : Int) := addc_t (by decide) (by omega) (by omega)
    exact hk25 z1 (z2 + 1) u33 hs_u33 ⟨by omega, by omega⟩ ⟨by omega, by omega⟩ (by omega)
  · exact Tot_some ⟨hs_u33, (by show (-1) ≤ z2.toInt ∧ z2.toInt ≤ 120; omega), trivial⟩
set_option maxHeartbeats 400000 in
set_option maxRecDepth 10000 in
theorem tGX12_say_0_153 (u0 : SX) (g25 : Int) {k25 : Int32 → Int32 → SX → Option (Int32 × SX)} (hk25 : ∀ (z1 : Int32) (z2 : Int32) (u : SX), (StM mdX12_say_0 u0 u) → (0 ≤ z1.toInt ∧ z1.toInt ≤ 11) → (0 ≤ z2.toInt ∧ z2.toInt ≤ 121) → (g25 < z2.toInt) → Tot (k25 z1 z2 u) (qX12_say_0 u0)) (z1 : Int32) (z2 : Int32) (z3 : Int32) (z4 : Int32) (y0 : Int32) (y1 : Int32) (u : SX) (hs_u : StM mdX12_say_0 u0 u) (h0 : 0 ≤ z1.toInt ∧ z1.toInt ≤ 11) (h1 : 0 ≤ z2.toInt ∧ z2.toInt ≤ 120) (h2 : 0 ≤ z3.toInt ∧ z3.toInt ≤ 1) (h3 : 103 ≤ y1.toInt ∧ y1.toInt ≤ 103) (h4 : g25 ≤ z2.toInt) : Tot (GX12_say_0_153 k25 z1 z2 z3 z4 y0 y1 u) (qX12_say_0 u0) := by
  unfold GX12_say_0_153
  refine Tot_gd (inb_t (by omega) (by omega)) ?_
  refine Tot_lt (fun u21 e_u21 => ?_)
  have hs_u21 : StM mdX12_say_0 u0 u21 := by rw [e_u21]; exact StM_sAf hs_u (by decide) rfl rfl (by decide)
  refine Tot_ite (fun c1396 => ?_) (fun c1396 => ?_)
  · have : z3.toInt = (0 : Int) := eqI c1396
    exact tGX12_say_0_172 u0 g25 hk25 z1 z2 z4 0 98 u21 hs_u21 ⟨by omega, by omega⟩ ⟨by omega, by omega⟩ (by show 98 ≤ (98 : Int) ∧ (98 : Int) ≤ 98; omega) (by omega)
  · have : ¬ z3.toInt = (0 : Int) := neI c1396
    have : (u21.1 19).toInt = (u.1 19).toInt := by rw [e_u21]; rfl
    exact tGX12_say_0_172 u0 g25 hk25 z1 z2 z4 (u21.1 19) 98 u21 hs_u21 ⟨by omega, by omega⟩ ⟨by omega, by omega⟩ (by show 98 ≤ (98 : Int) ∧ (98 : Int) ≤ 98; omega) (by omega)
set_option maxHeartbeats 400000 in
set_option maxRecDepth 10000 in
theorem tGX12_say_0_115 (u0 : SX) (g25 : Int) {k25 : Int32 → Int32 → SX → Option (Int32 × SX)} (hk25 : ∀ (z1 : Int32) (z2 : Int32) (u : SX), (StM mdX12_say_0 u0 u) → (0 ≤ z1.toInt ∧ z1.toInt ≤ 11) → (0 ≤ z2.toInt ∧ z2.toInt ≤ 121) → (g25 < z2.toInt) → Tot (k25 z1 z2 u) (qX12_say_0 u0)) (z1 : Int32) (z2 : Int32) (z3 : Int32) (z4 : Int32) (u : SX) (hs_u : StM mdX12_say_0 u0 u) (h0 : 0 ≤ z1.toInt ∧ z1.toInt ≤ 11) (h1 : 0 ≤ z2.toInt ∧ z2.toInt ≤ 120) (h2 : 0 ≤ z3.toInt ∧ z3.toInt ≤ 1) (h3 : g25 ≤ z2.toInt) : Tot (GX12_say_0_115 k25 z1 z2 z3 z4 u) (qX12_say_0 u0) := by
  unfold GX12_say_0_115
  refine Tot_bind (tfX12_noLetters_0 u hs_u.1) (fun q hq => ?_)
  obtain ⟨r14, u15⟩ := q
  have hc_u15 : StM mdX12_noLetters_0 u u15 := hq.1
  have hs_u15 : StM mdX12_say_0 u0 u15 := StM_tr hs_u hc_u15 (by decide)
  have : 0 ≤ r14.toInt ∧ r14.toInt ≤ 0 := hq.2.1
  clear hq
  refine Tot_gd (by decide) ?_
  refine Tot_lt (fun u18 e_u18 => ?_)
  have hs_u18 : StM mdX12_say_0 u0 u18 := by rw [e_u18]; exact StM_sAf hs_u15 (by decide) rfl rfl (by decide)
  refine Tot_ite (fun c1397 => ?_) (fun c1397 => ?_)
  · have : z3.toInt = (0 : Int) := eqI c1397
    exact tGX12_say_0_153 u0 g25 hk25 z1 z2 z3 z4 0 103 u18 hs_u18 ⟨by omega, by omega⟩ ⟨by omega, by omega⟩ ⟨by omega, by omega⟩ (by show 103 ≤ (103 : Int) ∧ (103 : Int) ≤ 103; omega) (by omega)
  · have : ¬ z3.toInt = (0 : Int) := neI c1397
    have : (u18.1 20).toInt = (u15.1 20).toInt := by rw [e_u18]; rfl
    have : (u15.1 20).toInt = (u.1 20).toInt := congrArg Int32.toInt (hc_u15.2.1 20 (by decide))
    have : (u18.1 19).toInt = (u15.1 19).toInt := by rw [e_u18]; rfl
    have : (u15.1 19).toInt = (u.1 19).toInt := congrArg Int32.toInt (hc_u15.2.1 19 (by decide))
    exact tGX12_say_0_153 u0 g25 hk25 z1 z2 z3 z4 ((u18.1 20) - (u18.1 19)) 103 u18 hs_u18 ⟨by omega, by omega⟩ ⟨by omega, by omega⟩ ⟨by omega, by omega⟩ (by show 103 ≤ (103 : Int) ∧ (103 : Int) ≤ 103; omega) (by omega)
set_option maxHeartbeats 400000 in
set_option maxRecDepth 10000 in
theorem tGX12_say_0_61 (u0 : SX) (g25 : Int) {k25 : Int32 → Int32 → SX → Option (Int32 × SX)} (hk25 : ∀ (z1 : Int32) (z2 : Int32) (u : SX), (StM mdX12_say_0 u0 u) → (0 ≤ z1.toInt ∧ z1.toInt ≤ 11) → (0 ≤ z2.toInt ∧ z2.toInt ≤ 121) → (g25 < z2.toInt) → Tot (k25 z1 z2 u) (qX12_say_0 u0)) (z1 : Int32) (z2 : Int32) (y0 : Int32) (u : SX) (hs_u : StM mdX12_say_0 u0 u) (h0 : 0 ≤ z1.toInt ∧ z1.toInt ≤ 11) (h1 : 0 ≤ z2.toInt ∧ z2.toInt ≤ 120) (h2 : 0 ≤ y0.toInt ∧ y0.toInt ≤ 1) (h3 : g25 ≤ z2.toInt) : Tot (GX12_say_0_61 k25 z1 z2 y0 u) (qX12_say_0 u0) := by
  unfold GX12_say_0_61
  exact tLX12_say_0_68 u0 g25 (tGX12_say_0_115 u0 g25 hk25) 5000 z1 z2 y0 0 0 u hs_u ⟨by omega, by omega⟩ ⟨by omega, by omega⟩ ⟨by omega, by omega⟩ (by show 0 ≤ (0 : Int) ∧ (0 : Int) ≤ 30; omega) (by omega) (by show 30 - (0 : Int) < ((5000 : Nat) : Int); omega)
set_option maxHeartbeats 400000 in
set_option maxRecDepth 10000 in
theorem tGX12_say_0_60 (u0 : SX) (g25 : Int) {k25 : Int32 → Int32 → SX → Option (Int32 × SX)} (hk25 : ∀ (z1 : Int32) (z2 : Int32) (u : SX), (StM mdX12_say_0 u0 u) → (0 ≤ z1.toInt ∧ z1.toInt ≤ 11) → (0 ≤ z2.toInt ∧ z2.toInt ≤ 121) → (g25 < z2.toInt) → Tot (k25 z1 z2 u) (qX12_say_0 u0)) (z1 : Int32) (z2 : Int32) (u : SX) (hs_u : StM mdX12_say_0 u0 u) (h0 : 0 ≤ z1.toInt ∧ z1.toInt ≤ 11) (h1 : 0 ≤ z2.toInt ∧ z2.toInt ≤ 120) (h2 : g25 ≤ z2.toInt) : Tot (GX12_say_0_60 k25 z1 z2 u) (qX12_say_0 u0) := by
  unfold GX12_say_0_60
  exact tGX12_say_0_61 u0 g25 hk25 z1 z2 0 u hs_u ⟨by omega, by omega⟩ ⟨by omega, by omega⟩ (by show 0 ≤ (0 : Int) ∧ (0 : Int) ≤ 1; omega) (by omega)
set_option maxHeartbeats 400000 in
set_option maxRecDepth 10000 in
theorem tLX12_say_0_25 (u0 : SX)    : ∀ (n : Nat) (z1 : Int32) (z2 : Int32) (u : SX), (StM mdX12_say_0 u0 u) → (0 ≤ z1.toInt ∧ z1.toInt ≤ 11) → (0 ≤ z2.toInt ∧ z2.toInt ≤ 121) → (121 - z2.toInt < (n : Int)) → Tot (LX12_say_0_25 n z1 z2 u) (qX12_say_0 u0) := by
  intro n
  induction n with
  | zero =>
    intro z1 z2 u hs_u h0 h1 hm
    exfalso
    omega
  | succ n ih =>
    intro z1 z2 u hs_u h0 h1 hm
    rw [LX12_say_0_25]
    have : 0 ≤ (u.1 1).toInt ∧ (u.1 1).toInt ≤ 120 := hs_u.1.1 1
    refine Tot_ite (fun c1398 => ?_) (fun c1398 => ?_)
    · have : (u.1 1).toInt < z2.toInt := ltI c1398
      exact Tot_some ⟨hs_u, (by show (-1) ≤ (-1 : Int) ∧ (-1 : Int) ≤ 120; omega), trivial⟩
    · have : ¬ (u.1 1).toInt < z2.toInt := nltI c1398
      refine Tot_bind (tfX12_layAlike_0 z2 u hs_u.1 ⟨by omega, by omega⟩) (fun q hq => ?_)
      obtain ⟨r7, u8⟩ := q
      have hc_u8 : StM mdX12_layAlike_0 u u8 := hq.1
      have hs_u8 : StM mdX12_say_0 u0 u8 := StM_tr hs_u hc_u8 (by decide)
      have : 0 ≤ r7.toInt ∧ r7.toInt ≤ 0 := hq.2.1
      clear hq
      refine Tot_ite (fun c1399 => ?_) (fun c1399 => ?_)
      · have : (u8.1 18).toInt ≤ (0 : Int) := leI c1399
        exact tGX12_say_0_60 u0 (z2.toInt) (fun a1400 a1401 w1402 hw1402 p1403 p1404 p1405 => ih a1400 a1401 w1402 hw1402 p1403 p1404 (by omega)) z1 z2 u8 hs_u8 ⟨by omega, by omega⟩ ⟨by omega, by omega⟩ (by omega)
      · have : ¬ (u8.1 18).toInt ≤ (0 : Int) := nleI c1399
        refine Tot_ite (fun c1406 => ?_) (fun c1406 => ?_)
        · exact tGX12_say_0_60 u0 (z2.toInt) (fun a1407 a1408 w1409 hw1409 p1410 p1411 p1412 => ih a1407 a1408 w1409 hw1409 p1410 p1411 (by omega)) z1 z2 u8 hs_u8 ⟨by omega, by omega⟩ ⟨by omega, by omega⟩ (by omega)
        · exact tGX12_say_0_61 u0 (z2.toInt) (fun a1413 a1414 w1415 hw1415 p1416 p1417 p1418 => ih a1413 a1414 w1415 hw1415 p1416 p1417 (by omega)) z1 z2 1 u8 hs_u8 ⟨by omega, by omega⟩ ⟨by omega, by omega⟩ (by show 0 ≤ (1 : Int) ∧ (1 : Int) ≤ 1; omega) (by omega)
set_option maxHeartbeats 400000 in
set_option maxRecDepth 10000 in
theorem tfX12_say_0 (x1 : Int32) (u : SX) (hI : IM u)  : Tot (fX12_say_0 x1 u) (qX12_say_0 u) := by
  unfold fX12_say_0
  have hs_u : StM mdX12_say_0 u u := StM_rf hI
  refine Tot_lt (fun u1 e_u1 => ?_)
  have hs_u1 : StM mdX12_say_0 u u1 := by rw [e_u1]; exact StM_sI hs_u (by decide) (by show 0 ≤ (0 : Int); omega) (by show (0 : Int) ≤ 1; omega)
  refine Tot_gd (by decide) ?_
  have : (u1.2.1 4 ((2 : Int32)).toNatClampNeg).toInt = (u.2.1 4 ((2 : Int32)).toNatClampNeg).toInt := by rw [e_u1]; rfl
  have : 0 ≤ (u1.2.1 4 ((2 : Int32)).toNatClampNeg).toInt ∧ (u1.2.1 4 ((2 : Int32)).toNatClampNeg).toInt ≤ 12 := hs_u1.1.2.1 4 ((2 : Int32)).toNatClampNeg
  have : ((u1.2.1 4 ((2 : Int32)).toNatClampNeg) - 1).toInt = (u1.2.1 4 ((2 : Int32)).toNatClampNeg).toInt - (1 : Int) := subc_t (by decide) (by omega) (by omega)
  refine Tot_bind (tfX12_isIn x1 0 ((u1.2.1 4 ((2 : Int32)).toNatClampNeg) - 1) (by show (-100000) ≤ (0 : Int) ∧ (0 : Int) ≤ 400; omega) ⟨by omega, by omega⟩) (fun r4 hq => ?_)
  have : 0 ≤ r4.toInt ∧ r4.toInt ≤ 1 := hq.1
  have : r4.toInt ≠ 0 → ((0 : Int) ≤ x1.toInt ∧ x1.toInt ≤ ((u1.2.1 4 ((2 : Int32)).toNatClampNeg) - 1).toInt) := hq.2
  clear hq
  refine Tot_ite (fun c1419 => ?_) (fun c1419 => ?_)
  · have : r4.toInt = (0 : Int) := eqI c1419
    exact Tot_some ⟨hs_u1, (by show (-1) ≤ (-1 : Int) ∧ (-1 : Int) ≤ 120; omega), trivial⟩
  · have : ¬ r4.toInt = (0 : Int) := neI c1419
    exact tLX12_say_0_25 u 5000 x1 0 u1 hs_u1 ⟨by omega, by omega⟩ (by show 0 ≤ (0 : Int) ∧ (0 : Int) ≤ 121; omega) (by show 121 - (0 : Int) < ((5000 : Nat) : Int); omega)

def mdX12_count_0 : MD := ([0], [], [], [])
abbrev qX12_count_0 (u : SX) (q : Int32 × SX) : Prop := StM mdX12_count_0 u q.2 ∧ ((-20) ≤ q.1.toInt ∧ q.1.toInt ≤ 120) ∧ (True)
set_option maxHeartbeats 400000 in
set_option maxRecDepth 10000 in
theorem tfX12_count_0 (x1 : Int32) (u : SX) (hI : IM u)  : Tot (fX12_count_0 x1 u) (qX12_count_0 u) := by
  unfold fX12_count_0
  have hs_u : StM mdX12_count_0 u u := StM_rf hI
  refine Tot_lt (fun u1 e_u1 => ?_)
  have hs_u1 : StM mdX12_count_0 u u1 := by rw [e_u1]; exact StM_sI hs_u (by decide) (by show 0 ≤ (0 : Int); omega) (by show (0 : Int) ≤ 1; omega)
  refine Tot_ite (fun c1420 => ?_) (fun c1420 => ?_)
  · have : x1.toInt = (0 : Int) := eqI c1420
    have : (u1.1 1).toInt = (u.1 1).toInt := by rw [e_u1]; rfl
    have : 0 ≤ (u.1 1).toInt ∧ (u.1 1).toInt ≤ 120 := hs_u.1.1 1
    exact Tot_some ⟨hs_u1, (by show (-20) ≤ (u1.1 1).toInt ∧ (u1.1 1).toInt ≤ 120; omega), trivial⟩
  · refine Tot_ite (fun c1421 => ?_) (fun c1421 => ?_)
    · have : x1.toInt = (1 : Int) := eqI c1421
      refine Tot_gd (by decide) ?_
      have : (u1.2.1 4 ((0 : Int32)).toNatClampNeg).toInt = (u.2.1 4 ((0 : Int32)).toNatClampNeg).toInt := by rw [e_u1]; rfl
      have : 0 ≤ (u1.2.1 4 ((0 : Int32)).toNatClampNeg).toInt ∧ (u1.2.1 4 ((0 : Int32)).toNatClampNeg).toInt ≤ 12 := hs_u1.1.2.1 4 ((0 : Int32)).toNatClampNeg
      exact Tot_some ⟨hs_u1, (by show (-20) ≤ (u1.2.1 4 ((0 : Int32)).toNatClampNeg).toInt ∧ (u1.2.1 4 ((0 : Int32)).toNatClampNeg).toInt ≤ 120; omega), trivial⟩
    · refine Tot_ite (fun c1422 => ?_) (fun c1422 => ?_)
      · have : x1.toInt = (2 : Int) := eqI c1422
        refine Tot_gd (by decide) ?_
        have : (u1.2.1 4 ((1 : Int32)).toNatClampNeg).toInt = (u.2.1 4 ((1 : Int32)).toNatClampNeg).toInt := by rw [e_u1]; rfl
        have : 0 ≤ (u1.2.1 4 ((1 : Int32)).toNatClampNeg).toInt ∧ (u1.2.1 4 ((1 : Int32)).toNatClampNeg).toInt ≤ 12 := hs_u1.1.2.1 4 ((1 : Int32)).toNatClampNeg
        exact Tot_some ⟨hs_u1, (by show (-20) ≤ (u1.2.1 4 ((1 : Int32)).toNatClampNeg).toInt ∧ (u1.2.1 4 ((1 : Int32)).toNatClampNeg).toInt ≤ 120; omega), trivial⟩
      · refine Tot_ite (fun c1423 => ?_) (fun c1423 => ?_)
        · have : x1.toInt = (3 : Int) := eqI c1423
          refine Tot_gd (by decide) ?_
          have : (u1.2.1 4 ((2 : Int32)).toNatClampNeg).toInt = (u.2.1 4 ((2 : Int32)).toNatClampNeg).toInt := by rw [e_u1]; rfl
          have : 0 ≤ (u1.2.1 4 ((2 : Int32)).toNatClampNeg).toInt ∧ (u1.2.1 4 ((2 : Int32)).toNatClampNeg).toInt ≤ 12 := hs_u1.1.2.1 4 ((2 : Int32)).toNatClampNeg
          exact Tot_some ⟨hs_u1, (by show (-20) ≤ (u1.2.1 4 ((2 : Int32)).toNatClampNeg).toInt ∧ (u1.2.1 4 ((2 : Int32)).toNatClampNeg).toInt ≤ 120; omega), trivial⟩
        · refine Tot_ite (fun c1424 => ?_) (fun c1424 => ?_)
          · have : x1.toInt = (4 : Int) := eqI c1424
            have : (u1.1 12).toInt = (u.1 12).toInt := by rw [e_u1]; rfl
            have : 0 ≤ (u.1 12).toInt ∧ (u.1 12).toInt ≤ 12 := hs_u.1.1 12
            exact Tot_some ⟨hs_u1, (by show (-20) ≤ (u1.1 12).toInt ∧ (u1.1 12).toInt ≤ 120; omega), trivial⟩
          · refine Tot_ite (fun c1425 => ?_) (fun c1425 => ?_)
            · have : x1.toInt = (5 : Int) := eqI c1425
              have : (u1.1 15).toInt = (u.1 15).toInt := by rw [e_u1]; rfl
              have : 0 ≤ (u.1 15).toInt ∧ (u.1 15).toInt ≤ 80 := hs_u.1.1 15
              exact Tot_some ⟨hs_u1, (by show (-20) ≤ (u1.1 15).toInt ∧ (u1.1 15).toInt ≤ 120; omega), trivial⟩
            · refine Tot_ite (fun c1426 => ?_) (fun c1426 => ?_)
              · have : x1.toInt = (6 : Int) := eqI c1426
                have : (u1.1 21).toInt = (u.1 21).toInt := by rw [e_u1]; rfl
                have : 0 ≤ (u.1 21).toInt ∧ (u.1 21).toInt ≤ 10 := hs_u.1.1 21
                exact Tot_some ⟨hs_u1, (by show (-20) ≤ (u1.1 21).toInt ∧ (u1.1 21).toInt ≤ 120; omega), trivial⟩
              · refine Tot_ite (fun c1427 => ?_) (fun c1427 => ?_)
                · have : x1.toInt = (7 : Int) := eqI c1427
                  have : (u1.1 13).toInt = (u.1 13).toInt := by rw [e_u1]; rfl
                  have : 0 ≤ (u.1 13).toInt ∧ (u.1 13).toInt ≤ 30 := hs_u.1.1 13
                  have : (u1.1 14).toInt = (u.1 14).toInt := by rw [e_u1]; rfl
                  have : 0 ≤ (u.1 14).toInt ∧ (u.1 14).toInt ≤ 20 := hs_u.1.1 14
                  have : ((u1.1 13) - (u1.1 14)).toInt = (u1.1 13).toInt - (u1.1 14).toInt := sub_t (by omega) (by omega)
                  exact Tot_some ⟨hs_u1, (by show (-20) ≤ ((u1.1 13) - (u1.1 14)).toInt ∧ ((u1.1 13) - (u1.1 14)).toInt ≤ 120; omega), trivial⟩
                · refine Tot_ite (fun c1428 => ?_) (fun c1428 => ?_)
                  · have : x1.toInt = (8 : Int) := eqI c1428
                    have : (u1.1 14).toInt = (u.1 14).toInt := by rw [e_u1]; rfl
                    have : 0 ≤ (u.1 14).toInt ∧ (u.1 14).toInt ≤ 20 := hs_u.1.1 14
                    exact Tot_some ⟨hs_u1, (by show (-20) ≤ (u1.1 14).toInt ∧ (u1.1 14).toInt ≤ 120; omega), trivial⟩
                  · refine Tot_ite (fun c1429 => ?_) (fun c1429 => ?_)
                    · have : x1.toInt = (9 : Int) := eqI c1429
                      have : (u1.1 22).toInt = (u.1 22).toInt := by rw [e_u1]; rfl
                      have : 0 ≤ (u.1 22).toInt ∧ (u.1 22).toInt ≤ 8 := hs_u.1.1 22
                      exact Tot_some ⟨hs_u1, (by show (-20) ≤ (u1.1 22).toInt ∧ (u1.1 22).toInt ≤ 120; omega), trivial⟩
                    · refine Tot_ite (fun c1430 => ?_) (fun c1430 => ?_)
                      · have : x1.toInt = (10 : Int) := eqI c1430
                        have : (u1.1 23).toInt = (u.1 23).toInt := by rw [e_u1]; rfl
                        have : 0 ≤ (u.1 23).toInt ∧ (u.1 23).toInt ≤ 40 := hs_u.1.1 23
                        exact Tot_some ⟨hs_u1, (by show (-20) ≤ (u1.1 23).toInt ∧ (u1.1 23).toInt ≤ 120; omega), trivial⟩
                      · refine Tot_ite (fun c1431 => ?_) (fun c1431 => ?_)
                        · have : x1.toInt = (11 : Int) := eqI c1431
                          have : (u1.1 24).toInt = (u.1 24).toInt := by rw [e_u1]; rfl
                          have : 0 ≤ (u.1 24).toInt ∧ (u.1 24).toInt ≤ 20 := hs_u.1.1 24
                          exact Tot_some ⟨hs_u1, (by show (-20) ≤ (u1.1 24).toInt ∧ (u1.1 24).toInt ≤ 120; omega), trivial⟩
                        · refine Tot_ite (fun c1432 => ?_) (fun c1432 => ?_)
                          · have : x1.toInt = (12 : Int) := eqI c1432
                            have : (u1.1 25).toInt = (u.1 25).toInt := by rw [e_u1]; rfl
                            have : 0 ≤ (u.1 25).toInt ∧ (u.1 25).toInt ≤ 60 := hs_u.1.1 25
                            exact Tot_some ⟨hs_u1, (by show (-20) ≤ (u1.1 25).toInt ∧ (u1.1 25).toInt ≤ 120; omega), trivial⟩
                          · refine Tot_ite (fun c1433 => ?_) (fun c1433 => ?_)
                            · have : x1.toInt = (13 : Int) := eqI c1433
                              have : (u1.1 3).toInt = (u.1 3).toInt := by rw [e_u1]; rfl
                              have : 0 ≤ (u.1 3).toInt ∧ (u.1 3).toInt ≤ 120 := hs_u.1.1 3
                              exact Tot_some ⟨hs_u1, (by show (-20) ≤ (u1.1 3).toInt ∧ (u1.1 3).toInt ≤ 120; omega), trivial⟩
                            · exact Tot_some ⟨hs_u1, (by show (-20) ≤ (-1 : Int) ∧ (-1 : Int) ≤ 120; omega), trivial⟩
