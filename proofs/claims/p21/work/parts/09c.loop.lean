theorem zdL_law_40 : (and (and (and (and (zk cL_law 40 (.tableswitch 1890 0 36 #[164, 189, 262, 287, 312, 337, 441, 502, 551, 638, 773, 860, 909, 946, 983, 1020, 1069, 1094, 1155, 1180, 1241, 1278, 1291, 1340, 1377, 1414, 1463, 1524, 1537, 1614, 1651, 1688, 1765, 1778, 1803, 1840, 1865]) 164) (zk cL_law 23 (.iload 4) 2)) (and (zk cL_law 25 (.aload_n 0) 1) (zk cL_law 26 (.arraylength) 1))) (and (and (zk cL_law 27 (.bipush 9) 2) (zk cL_law 29 (.isub) 1)) (and (zk cL_law 30 (.if_icmp .gt 1906) 3) (zk cL_law 1936 (.iconst 1) 1)))) (and (and (and (zk cL_law 1937 (.ireturn) 1) (zk cL_law 33 (.aload_n 0) 1)) (and (zk cL_law 34 (.iload 4) 2) (zk cL_law 36 (.iaload) 1))) (and (and (zk cL_law 37 (.bipush 63) 2) (zk cL_law 39 (.iand) 1)) (and (zk cL_law 1930 (.iinc 4 9) 3) (zk cL_law 1933 (.goto (-1910)) 3))))) = true := by decide +kernel
theorem dL_law_40 : decode cL_law 40 = .ok (.tableswitch 1890 0 36 #[164, 189, 262, 287, 312, 337, 441, 502, 551, 638, 773, 860, 909, 946, 983, 1020, 1069, 1094, 1155, 1180, 1241, 1278, 1291, 1340, 1377, 1414, 1463, 1524, 1537, 1614, 1651, 1688, 1765, 1778, 1803, 1840, 1865], 164) := zk_of (zk_l (zk_l (zk_l (zk_l zdL_law_40))))
theorem dL_law_23 : decode cL_law 23 = .ok (.iload 4, 2) := zk_of (zk_r (zk_l (zk_l (zk_l zdL_law_40))))
theorem dL_law_25 : decode cL_law 25 = .ok (.aload_n 0, 1) := zk_of (zk_l (zk_r (zk_l (zk_l zdL_law_40))))
theorem dL_law_26 : decode cL_law 26 = .ok (.arraylength, 1) := zk_of (zk_r (zk_r (zk_l (zk_l zdL_law_40))))
theorem dL_law_27 : decode cL_law 27 = .ok (.bipush 9, 2) := zk_of (zk_l (zk_l (zk_r (zk_l zdL_law_40))))
theorem dL_law_29 : decode cL_law 29 = .ok (.isub, 1) := zk_of (zk_r (zk_l (zk_r (zk_l zdL_law_40))))
theorem dL_law_30 : decode cL_law 30 = .ok (.if_icmp .gt 1906, 3) := zk_of (zk_l (zk_r (zk_r (zk_l zdL_law_40))))
theorem dL_law_1936 : decode cL_law 1936 = .ok (.iconst 1, 1) := zk_of (zk_r (zk_r (zk_r (zk_l zdL_law_40))))
theorem dL_law_1937 : decode cL_law 1937 = .ok (.ireturn, 1) := zk_of (zk_l (zk_l (zk_l (zk_r zdL_law_40))))
theorem dL_law_33 : decode cL_law 33 = .ok (.aload_n 0, 1) := zk_of (zk_r (zk_l (zk_l (zk_r zdL_law_40))))
theorem dL_law_34 : decode cL_law 34 = .ok (.iload 4, 2) := zk_of (zk_l (zk_r (zk_l (zk_r zdL_law_40))))
theorem dL_law_36 : decode cL_law 36 = .ok (.iaload, 1) := zk_of (zk_r (zk_r (zk_l (zk_r zdL_law_40))))
theorem dL_law_37 : decode cL_law 37 = .ok (.bipush 63, 2) := zk_of (zk_l (zk_l (zk_r (zk_r zdL_law_40))))
theorem dL_law_39 : decode cL_law 39 = .ok (.iand, 1) := zk_of (zk_r (zk_l (zk_r (zk_r zdL_law_40))))
theorem dL_law_1930 : decode cL_law 1930 = .ok (.iinc 4 9, 3) := zk_of (zk_l (zk_r (zk_r (zk_r zdL_law_40))))
theorem dL_law_1933 : decode cL_law 1933 = .ok (.goto (-1910), 3) := zk_of (zk_r (zk_r (zk_r (zk_r zdL_law_40))))
set_option maxHeartbeats 4000000 in
set_option maxRecDepth 100000 in
theorem law_switch {p : Program} {e : Env} {s : State} {m : MethodId} {below : List Frame} {meth : Method} {c : Code} (l : Launch) (hfl : l.stackTraces = false) {b L : Nat} {xs : Nat → Int32} {D : va_G} {cy : Nat → ClassId} {st aM : Nat → Nat} {o x0 : Nat} {aX : Nat → Nat} {u v : SX} {f : Nat → Int64} {H : Heap} {locs : List Loc} {ls : Array Slot} {i : Int32} {cells slots : Nat} {Q : State → Prop} (F : LF p s m meth c b L xs D cy st aM o) (I : LI s D cy st aM o x0 aX u v f H locs) (hi0 : 0 ≤ i.toInt) (hi9 : i.toInt + 9 ≤ (L : Int)) (hcl : cells + 2 ≤ room_1.cells) (hsl : slots + 122 ≤ room_1.slots) (hl : lv_has ls 7 [(0, .ref b), (1, .ref x0), (2, .ref (aM 0)), (3, .ref o), (4, .int i)]) (kk : ∀ (aX : Nat → Nat) (u v : SX) (f : Nat → Int64) (H : Heap) (locs : List Loc) (ls : Array Slot), LI s D cy st aM o x0 aX u v f H locs → lv_has ls 7 [(0, .ref b), (1, .ref x0), (2, .ref (aM 0)), (3, .ref o), (4, .int i)] → W p l e room_1 s m #[Value.ref b] below meth c H locs (cells + 2) (slots + 122) Q (F0 m 1930 ls [])) (x : Int32) : W p l e room_1 s m #[Value.ref b] below meth c H locs cells slots Q (F0 m 40 ls [.int x]) := by
  have F0' := F
  obtain ⟨C0, -⟩ := F0'
  obtain ⟨hx, hb, -⟩ := C0
  by_cases c0 : x = 0
  · rw [c0]
    refine lv_tableIn (off := 164) (tgt := 204) hx hb dL_law_40 (by decide) (by decide) (by decide) (by decide) ?_
    exact case_0 l hfl F I hi0 hi9 hcl hsl hl kk
  by_cases c1 : x = 1
  · rw [c1]
    refine lv_tableIn (off := 189) (tgt := 229) hx hb dL_law_40 (by decide) (by decide) (by decide) (by decide) ?_
    exact case_1 l hfl F I hi0 hi9 hcl hsl hl kk
  by_cases c2 : x = 2
  · rw [c2]
    refine lv_tableIn (off := 262) (tgt := 302) hx hb dL_law_40 (by decide) (by decide) (by decide) (by decide) ?_
    exact case_2 l hfl F I hi0 hi9 hcl hsl hl kk
  by_cases c3 : x = 3
  · rw [c3]
    refine lv_tableIn (off := 287) (tgt := 327) hx hb dL_law_40 (by decide) (by decide) (by decide) (by decide) ?_
    exact case_3 l hfl F I hi0 hi9 hcl hsl hl kk
  by_cases c4 : x = 4
  · rw [c4]
    refine lv_tableIn (off := 312) (tgt := 352) hx hb dL_law_40 (by decide) (by decide) (by decide) (by decide) ?_
    exact case_4 l hfl F I hi0 hi9 hcl hsl hl kk
  by_cases c5 : x = 5
  · rw [c5]
    refine lv_tableIn (off := 337) (tgt := 377) hx hb dL_law_40 (by decide) (by decide) (by decide) (by decide) ?_
    exact case_5 l hfl F I hi0 hi9 hcl hsl hl kk
  by_cases c6 : x = 6
  · rw [c6]
    refine lv_tableIn (off := 441) (tgt := 481) hx hb dL_law_40 (by decide) (by decide) (by decide) (by decide) ?_
    exact case_6 l hfl F I hi0 hi9 hcl hsl hl kk
  by_cases c7 : x = 7
  · rw [c7]
    refine lv_tableIn (off := 502) (tgt := 542) hx hb dL_law_40 (by decide) (by decide) (by decide) (by decide) ?_
    exact case_7 l hfl F I hi0 hi9 hcl hsl hl kk
  by_cases c8 : x = 8
  · rw [c8]
    refine lv_tableIn (off := 551) (tgt := 591) hx hb dL_law_40 (by decide) (by decide) (by decide) (by decide) ?_
    exact case_8 l hfl F I hi0 hi9 hcl hsl hl kk
  by_cases c9 : x = 9
  · rw [c9]
    refine lv_tableIn (off := 638) (tgt := 678) hx hb dL_law_40 (by decide) (by decide) (by decide) (by decide) ?_
    exact case_9 l hfl F I hi0 hi9 hcl hsl hl kk
  by_cases c10 : x = 10
  · rw [c10]
    refine lv_tableIn (off := 773) (tgt := 813) hx hb dL_law_40 (by decide) (by decide) (by decide) (by decide) ?_
    exact case_10 l hfl F I hi0 hi9 hcl hsl hl kk
  by_cases c11 : x = 11
  · rw [c11]
    refine lv_tableIn (off := 860) (tgt := 900) hx hb dL_law_40 (by decide) (by decide) (by decide) (by decide) ?_
    exact case_11 l hfl F I hi0 hi9 hcl hsl hl kk
  by_cases c12 : x = 12
  · rw [c12]
    refine lv_tableIn (off := 909) (tgt := 949) hx hb dL_law_40 (by decide) (by decide) (by decide) (by decide) ?_
    exact case_12 l hfl F I hi0 hi9 hcl hsl hl kk
  by_cases c13 : x = 13
  · rw [c13]
    refine lv_tableIn (off := 946) (tgt := 986) hx hb dL_law_40 (by decide) (by decide) (by decide) (by decide) ?_
    exact case_13 l hfl F I hi0 hi9 hcl hsl hl kk
  by_cases c14 : x = 14
  · rw [c14]
    refine lv_tableIn (off := 983) (tgt := 1023) hx hb dL_law_40 (by decide) (by decide) (by decide) (by decide) ?_
    exact case_14 l hfl F I hi0 hi9 hcl hsl hl kk
  by_cases c15 : x = 15
  · rw [c15]
    refine lv_tableIn (off := 1020) (tgt := 1060) hx hb dL_law_40 (by decide) (by decide) (by decide) (by decide) ?_
    exact case_15 l hfl F I hi0 hi9 hcl hsl hl kk
  by_cases c16 : x = 16
  · rw [c16]
    refine lv_tableIn (off := 1069) (tgt := 1109) hx hb dL_law_40 (by decide) (by decide) (by decide) (by decide) ?_
    exact case_16 l hfl F I hi0 hi9 hcl hsl hl kk
  by_cases c17 : x = 17
  · rw [c17]
    refine lv_tableIn (off := 1094) (tgt := 1134) hx hb dL_law_40 (by decide) (by decide) (by decide) (by decide) ?_
    exact case_17 l hfl F I hi0 hi9 hcl hsl hl kk
  by_cases c18 : x = 18
  · rw [c18]
    refine lv_tableIn (off := 1155) (tgt := 1195) hx hb dL_law_40 (by decide) (by decide) (by decide) (by decide) ?_
    exact case_18 l hfl F I hi0 hi9 hcl hsl hl kk
  by_cases c19 : x = 19
  · rw [c19]
    refine lv_tableIn (off := 1180) (tgt := 1220) hx hb dL_law_40 (by decide) (by decide) (by decide) (by decide) ?_
    exact case_19 l hfl F I hi0 hi9 hcl hsl hl kk
  by_cases c20 : x = 20
  · rw [c20]
    refine lv_tableIn (off := 1241) (tgt := 1281) hx hb dL_law_40 (by decide) (by decide) (by decide) (by decide) ?_
    exact case_20 l hfl F I hi0 hi9 hcl hsl hl kk
  by_cases c21 : x = 21
  · rw [c21]
    refine lv_tableIn (off := 1278) (tgt := 1318) hx hb dL_law_40 (by decide) (by decide) (by decide) (by decide) ?_
    exact case_21 l hfl F I hi0 hi9 hcl hsl hl kk
  by_cases c22 : x = 22
  · rw [c22]
    refine lv_tableIn (off := 1291) (tgt := 1331) hx hb dL_law_40 (by decide) (by decide) (by decide) (by decide) ?_
    exact case_22 l hfl F I hi0 hi9 hcl hsl hl kk
  by_cases c23 : x = 23
  · rw [c23]
    refine lv_tableIn (off := 1340) (tgt := 1380) hx hb dL_law_40 (by decide) (by decide) (by decide) (by decide) ?_
    exact case_23 l hfl F I hi0 hi9 hcl hsl hl kk
  by_cases c24 : x = 24
  · rw [c24]
    refine lv_tableIn (off := 1377) (tgt := 1417) hx hb dL_law_40 (by decide) (by decide) (by decide) (by decide) ?_
    exact case_24 l hfl F I hi0 hi9 hcl hsl hl kk
  by_cases c25 : x = 25
  · rw [c25]
    refine lv_tableIn (off := 1414) (tgt := 1454) hx hb dL_law_40 (by decide) (by decide) (by decide) (by decide) ?_
    exact case_25 l hfl F I hi0 hi9 hcl hsl hl kk
  by_cases c26 : x = 26
  · rw [c26]
    refine lv_tableIn (off := 1463) (tgt := 1503) hx hb dL_law_40 (by decide) (by decide) (by decide) (by decide) ?_
    exact case_26 l hfl F I hi0 hi9 hcl hsl hl kk
  by_cases c27 : x = 27
  · rw [c27]
    refine lv_tableIn (off := 1524) (tgt := 1564) hx hb dL_law_40 (by decide) (by decide) (by decide) (by decide) ?_
    exact case_27 l hfl F I hi0 hi9 hcl hsl hl kk
  by_cases c28 : x = 28
  · rw [c28]
    refine lv_tableIn (off := 1537) (tgt := 1577) hx hb dL_law_40 (by decide) (by decide) (by decide) (by decide) ?_
    exact case_28 l hfl F I hi0 hi9 hcl hsl hl kk
  by_cases c29 : x = 29
  · rw [c29]
    refine lv_tableIn (off := 1614) (tgt := 1654) hx hb dL_law_40 (by decide) (by decide) (by decide) (by decide) ?_
    exact case_29 l hfl F I hi0 hi9 hcl hsl hl kk
  by_cases c30 : x = 30
  · rw [c30]
    refine lv_tableIn (off := 1651) (tgt := 1691) hx hb dL_law_40 (by decide) (by decide) (by decide) (by decide) ?_
    exact case_30 l hfl F I hi0 hi9 hcl hsl hl kk
  by_cases c31 : x = 31
  · rw [c31]
    refine lv_tableIn (off := 1688) (tgt := 1728) hx hb dL_law_40 (by decide) (by decide) (by decide) (by decide) ?_
    exact case_31 l hfl F I hi0 hi9 hcl hsl hl kk
  by_cases c32 : x = 32
  · rw [c32]
    refine lv_tableIn (off := 1765) (tgt := 1805) hx hb dL_law_40 (by decide) (by decide) (by decide) (by decide) ?_
    exact case_32 l hfl F I hi0 hi9 hcl hsl hl kk
  by_cases c33 : x = 33
  · rw [c33]
    refine lv_tableIn (off := 1778) (tgt := 1818) hx hb dL_law_40 (by decide) (by decide) (by decide) (by decide) ?_
    exact case_33 l hfl F I hi0 hi9 hcl hsl hl kk
  by_cases c34 : x = 34
  · rw [c34]
    refine lv_tableIn (off := 1803) (tgt := 1843) hx hb dL_law_40 (by decide) (by decide) (by decide) (by decide) ?_
    exact case_34 l hfl F I hi0 hi9 hcl hsl hl kk
  by_cases c35 : x = 35
  · rw [c35]
    refine lv_tableIn (off := 1840) (tgt := 1880) hx hb dL_law_40 (by decide) (by decide) (by decide) (by decide) ?_
    exact case_35 l hfl F I hi0 hi9 hcl hsl hl kk
  by_cases c36 : x = 36
  · rw [c36]
    refine lv_tableIn (off := 1865) (tgt := 1905) hx hb dL_law_40 (by decide) (by decide) (by decide) (by decide) ?_
    exact case_36 l hfl F I hi0 hi9 hcl hsl hl kk
  have e0 := lv_neT c0 (show (0 : Int32).toInt = 0 from by decide)
  have e1 := lv_neT c1 (show (1 : Int32).toInt = 1 from by decide)
  have e2 := lv_neT c2 (show (2 : Int32).toInt = 2 from by decide)
  have e3 := lv_neT c3 (show (3 : Int32).toInt = 3 from by decide)
  have e4 := lv_neT c4 (show (4 : Int32).toInt = 4 from by decide)
  have e5 := lv_neT c5 (show (5 : Int32).toInt = 5 from by decide)
  have e6 := lv_neT c6 (show (6 : Int32).toInt = 6 from by decide)
  have e7 := lv_neT c7 (show (7 : Int32).toInt = 7 from by decide)
  have e8 := lv_neT c8 (show (8 : Int32).toInt = 8 from by decide)
  have e9 := lv_neT c9 (show (9 : Int32).toInt = 9 from by decide)
  have e10 := lv_neT c10 (show (10 : Int32).toInt = 10 from by decide)
  have e11 := lv_neT c11 (show (11 : Int32).toInt = 11 from by decide)
  have e12 := lv_neT c12 (show (12 : Int32).toInt = 12 from by decide)
  have e13 := lv_neT c13 (show (13 : Int32).toInt = 13 from by decide)
  have e14 := lv_neT c14 (show (14 : Int32).toInt = 14 from by decide)
  have e15 := lv_neT c15 (show (15 : Int32).toInt = 15 from by decide)
  have e16 := lv_neT c16 (show (16 : Int32).toInt = 16 from by decide)
  have e17 := lv_neT c17 (show (17 : Int32).toInt = 17 from by decide)
  have e18 := lv_neT c18 (show (18 : Int32).toInt = 18 from by decide)
  have e19 := lv_neT c19 (show (19 : Int32).toInt = 19 from by decide)
  have e20 := lv_neT c20 (show (20 : Int32).toInt = 20 from by decide)
  have e21 := lv_neT c21 (show (21 : Int32).toInt = 21 from by decide)
  have e22 := lv_neT c22 (show (22 : Int32).toInt = 22 from by decide)
  have e23 := lv_neT c23 (show (23 : Int32).toInt = 23 from by decide)
  have e24 := lv_neT c24 (show (24 : Int32).toInt = 24 from by decide)
  have e25 := lv_neT c25 (show (25 : Int32).toInt = 25 from by decide)
  have e26 := lv_neT c26 (show (26 : Int32).toInt = 26 from by decide)
  have e27 := lv_neT c27 (show (27 : Int32).toInt = 27 from by decide)
  have e28 := lv_neT c28 (show (28 : Int32).toInt = 28 from by decide)
  have e29 := lv_neT c29 (show (29 : Int32).toInt = 29 from by decide)
  have e30 := lv_neT c30 (show (30 : Int32).toInt = 30 from by decide)
  have e31 := lv_neT c31 (show (31 : Int32).toInt = 31 from by decide)
  have e32 := lv_neT c32 (show (32 : Int32).toInt = 32 from by decide)
  have e33 := lv_neT c33 (show (33 : Int32).toInt = 33 from by decide)
  have e34 := lv_neT c34 (show (34 : Int32).toInt = 34 from by decide)
  have e35 := lv_neT c35 (show (35 : Int32).toInt = 35 from by decide)
  have e36 := lv_neT c36 (show (36 : Int32).toInt = 36 from by decide)
  refine lv_tableOut (tgt := 1930) hx hb dL_law_40 (by omega) (by decide) ?_
  refine W.widen (k := cells + 2) (n := slots + 122) (Nat.le_add_right _ _) (Nat.le_add_right _ _) ?_
  exact kk aX u v f H locs ls I hl
set_option maxHeartbeats 4000000 in
/-- the loop, from its head -/
theorem law_loop {p : Program} {e : Env} {s : State} {m : MethodId} {below : List Frame} {meth : Method} {c : Code} (l : Launch) (hfl : l.stackTraces = false) {b L : Nat} {xs : Nat → Int32} {D : va_G} {cy : Nat → ClassId} {st aM : Nat → Nat} {o x0 : Nat} (F : LF p s m meth c b L xs D cy st aM o) : ∀ (n : Nat) (i : Int32) (aX : Nat → Nat) (u v : SX) (f : Nat → Int64) (H : Heap) (locs : List Loc) (ls : Array Slot) (cells slots : Nat), LI s D cy st aM o x0 aX u v f H locs → 0 ≤ i.toInt → i.toInt ≤ (L : Int) + 9 → (L : Int) ≤ i.toInt + 9 * (n : Int) + 8 → cells + 2 * n ≤ 601024 → slots + 122 * n ≤ 7293034 → lv_has ls 7 [(0, .ref b), (1, .ref x0), (2, .ref (aM 0)), (3, .ref o), (4, .int i)] → W p l e room_1 s m #[Value.ref b] below meth c H locs cells slots (lw_Z below #[Value.ref b] s) (F0 m 23 ls []) := by
  intro n
  induction n with
  | zero =>
    intro i aX u v f H locs ls cells slots I hi0 hi1 hiL hc hs hl
    obtain ⟨C0, hL, hK, hJM, hAM, hoM, hso, hst, hE, hCL⟩ := F
    obtain ⟨hx, hb, hr, hml, hown, hts0, hX, hbl, hlocks, hgv⟩ := C0
    obtain ⟨hx0, hJX, hAX, hdis, hoX, hPX, hPM, hPo, hS, hIX, hIM, hEv, htie, hrow, htape, hcnt, hpar⟩ := I
    have hbA : ¬ (fun q : Nat => s.heap.size ≤ q) b := Nat.not_le.mpr hbl
    have e9 : (Int32.ofNat L - 9).toInt = (L : Int) - 9 := by
      have e := ofN hL
      have e2 := subc_t (x := Int32.ofNat L) (c := 9) (n := 9) (by decide) (by rw [e]; omega) (by rw [e]; omega)
      rw [e2, e]
    refine lv_iload hx hb dL_law_23 (lv_at hl 4 rfl) ?_
    refine lv_aload_n hx hb dL_law_25 rfl (lv_at hl 0 rfl) ?_
    refine va_slen hx hb hX hbl hbA hS dL_law_26 ?_
    refine lv_bipush (v := 9) hx hb dL_law_27 (by decide) ?_
    refine lv_isub hx hb dL_law_29 ?_
    refine lv_icmp_gt (tgt := 1936) hx hb dL_law_30 (by decide) (fun _ => ?_) (fun h => absurd (Int32.lt_iff_toInt_lt.mpr (by rw [e9]; omega)) h)
    refine lv_iconst (v := 1) hx hb dL_law_1936 (by decide) ?_
    refine va_forget (fun q hq => hS.2.2 q hq) ?_
    refine W.widen (k := 601024) (n := 7293034) (by omega) (by omega) ?_
    exact lw_ret hx hb hr hlocks dL_law_1937
  | succ n ih =>
    intro i aX u v f H locs ls cells slots I hi0 hi1 hiL hc hs hl
    have I9 := I
    have F9 := F
    obtain ⟨C0, hL, hK, hJM, hAM, hoM, hso, hst, hE, hCL⟩ := F9
    obtain ⟨hx, hb, hr, hml, hown, hts0, hX, hbl, hlocks, hgv⟩ := C0
    obtain ⟨hx0, hJX, hAX, hdis, hoX, hPX, hPM, hPo, hS, hIX, hIM, hEv, htie, hrow, htape, hcnt, hpar⟩ := I9
    have hbA : ¬ (fun q : Nat => s.heap.size ≤ q) b := Nat.not_le.mpr hbl
    have e9 : (Int32.ofNat L - 9).toInt = (L : Int) - 9 := by
      have e := ofN hL
      have e2 := subc_t (x := Int32.ofNat L) (c := 9) (n := 9) (by decide) (by rw [e]; omega) (by rw [e]; omega)
      rw [e2, e]
    refine lv_iload hx hb dL_law_23 (lv_at hl 4 rfl) ?_
    refine lv_aload_n hx hb dL_law_25 rfl (lv_at hl 0 rfl) ?_
    refine va_slen hx hb hX hbl hbA hS dL_law_26 ?_
    refine lv_bipush (v := 9) hx hb dL_law_27 (by decide) ?_
    refine lv_isub hx hb dL_law_29 ?_
    refine lv_icmp_gt (tgt := 1936) hx hb dL_law_30 (by decide) (fun _ => ?_) (fun h => ?_)
    · refine lv_iconst (v := 1) hx hb dL_law_1936 (by decide) ?_
      refine va_forget (fun q hq => hS.2.2 q hq) ?_
      refine W.widen (k := 601024) (n := 7293034) (by omega) (by omega) ?_
      exact lw_ret hx hb hr hlocks dL_law_1937
    · have h9 : i.toInt + 9 ≤ (L : Int) := by
        have h8 : ¬ (Int32.ofNat L - 9).toInt < i.toInt := fun z => h (Int32.lt_iff_toInt_lt.mpr z)
        rw [e9] at h8
        omega
      have hin0 : vp_in i L := inb_in (inb_t hi0 (by omega))
      obtain ⟨y0, hy0⟩ : ∃ y, xs i.toNatClampNeg = y := ⟨_, rfl⟩
      refine lv_aload_n hx hb dL_law_33 rfl (lv_at hl 0 rfl) ?_
      refine lv_iload hx hb dL_law_34 (lv_at hl 4 rfl) ?_
      refine sld9 (v := y0) hx hb hX hbl hbA hS hin0 hy0 dL_law_36 ?_
      refine lv_bipush (v := 63) hx hb dL_law_37 (by decide) ?_
      refine lv_iand hx hb dL_law_39 ?_
      refine law_switch l hfl F I hi0 h9 (by show cells + 2 ≤ 601024; omega) (by show slots + 122 ≤ 7293034; omega) hl (fun aX u v f H locs ls I hl => ?_) _
      have ei : (i + 9).toInt = i.toInt + 9 := addc_t (by decide) (by omega) (by omega)
      refine lv_iinc (v := i + 9) (lv' := [(4, .int (i + 9)), (0, .ref b), (1, .ref x0), (2, .ref (aM 0)), (3, .ref o)]) hx hb dL_law_1930 hl (k := 4) rfl rfl (by decide) rfl (fun ls hl => ?_)
      refine lv_goto (tgt := 23) hx hb dL_law_1933 (by decide) ?_
      exact ih (i + 9) aX u v f H locs ls (cells + 2) (slots + 122) I (by rw [ei]; omega) (by rw [ei]; omega) (by rw [ei]; omega) (by omega) (by omega) (lv_sub hl [1, 2, 3, 4, 0] rfl)
