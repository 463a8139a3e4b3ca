theorem zdX3_gain_0 : (and (and (and (and (and (zk cX3_gain 0 (.aload_n 0) 1) (zk cX3_gain 1 (.getfield 45) 3)) (and (zk cX3_gain 4 (.iload_n 2) 1) (zk cX3_gain 5 (.aload_n 0) 1))) (and (and (zk cX3_gain 6 (.getfield 9) 3) (zk cX3_gain 9 (.iload_n 1) 1)) (and (zk cX3_gain 10 (.iaload) 1) (zk cX3_gain 11 (.invokevirtual 73) 3)))) (and (and (and (zk cX3_gain 14 (.istore_n 3) 1) (zk cX3_gain 15 (.aload_n 0) 1)) (and (zk cX3_gain 16 (.getfield 27) 3) (zk cX3_gain 19 (.iload_n 1) 1))) (and (and (zk cX3_gain 20 (.iaload) 1) (zk cX3_gain 21 (.aload_n 0) 1)) (and (zk cX3_gain 22 (.getfield 30) 3) (zk cX3_gain 25 (.iload_n 1) 1))))) (and (and (and (and (zk cX3_gain 26 (.iaload) 1) (zk cX3_gain 27 (.iload_n 3) 1)) (and (zk cX3_gain 28 (.invokestatic 79) 3) (zk cX3_gain 31 (.aload_n 0) 1))) (and (and (zk cX3_gain 32 (.getfield 33) 3) (zk cX3_gain 35 (.iload_n 1) 1)) (and (zk cX3_gain 36 (.iaload) 1) (zk cX3_gain 37 (.aload_n 0) 1)))) (and (and (and (zk cX3_gain 38 (.getfield 36) 3) (zk cX3_gain 41 (.iload_n 1) 1)) (and (zk cX3_gain 42 (.iaload) 1) (zk cX3_gain 43 (.iload_n 3) 1))) (and (and (zk cX3_gain 44 (.invokestatic 79) 3) (zk cX3_gain 47 (.isub) 1)) (zk cX3_gain 48 (.ireturn) 1))))) = true := by decide +kernel
theorem dX3_gain_0 : decode cX3_gain 0 = .ok (.aload_n 0, 1) := zk_of (zk_l (zk_l (zk_l (zk_l (zk_l zdX3_gain_0)))))
theorem dX3_gain_1 : decode cX3_gain 1 = .ok (.getfield 45, 3) := zk_of (zk_r (zk_l (zk_l (zk_l (zk_l zdX3_gain_0)))))
theorem dX3_gain_4 : decode cX3_gain 4 = .ok (.iload_n 2, 1) := zk_of (zk_l (zk_r (zk_l (zk_l (zk_l zdX3_gain_0)))))
theorem dX3_gain_5 : decode cX3_gain 5 = .ok (.aload_n 0, 1) := zk_of (zk_r (zk_r (zk_l (zk_l (zk_l zdX3_gain_0)))))
theorem dX3_gain_6 : decode cX3_gain 6 = .ok (.getfield 9, 3) := zk_of (zk_l (zk_l (zk_r (zk_l (zk_l zdX3_gain_0)))))
theorem dX3_gain_9 : decode cX3_gain 9 = .ok (.iload_n 1, 1) := zk_of (zk_r (zk_l (zk_r (zk_l (zk_l zdX3_gain_0)))))
theorem dX3_gain_10 : decode cX3_gain 10 = .ok (.iaload, 1) := zk_of (zk_l (zk_r (zk_r (zk_l (zk_l zdX3_gain_0)))))
theorem dX3_gain_11 : decode cX3_gain 11 = .ok (.invokevirtual 73, 3) := zk_of (zk_r (zk_r (zk_r (zk_l (zk_l zdX3_gain_0)))))
theorem dX3_gain_14 : decode cX3_gain 14 = .ok (.istore_n 3, 1) := zk_of (zk_l (zk_l (zk_l (zk_r (zk_l zdX3_gain_0)))))
theorem dX3_gain_15 : decode cX3_gain 15 = .ok (.aload_n 0, 1) := zk_of (zk_r (zk_l (zk_l (zk_r (zk_l zdX3_gain_0)))))
theorem dX3_gain_16 : decode cX3_gain 16 = .ok (.getfield 27, 3) := zk_of (zk_l (zk_r (zk_l (zk_r (zk_l zdX3_gain_0)))))
theorem dX3_gain_19 : decode cX3_gain 19 = .ok (.iload_n 1, 1) := zk_of (zk_r (zk_r (zk_l (zk_r (zk_l zdX3_gain_0)))))
theorem dX3_gain_20 : decode cX3_gain 20 = .ok (.iaload, 1) := zk_of (zk_l (zk_l (zk_r (zk_r (zk_l zdX3_gain_0)))))
theorem dX3_gain_21 : decode cX3_gain 21 = .ok (.aload_n 0, 1) := zk_of (zk_r (zk_l (zk_r (zk_r (zk_l zdX3_gain_0)))))
theorem dX3_gain_22 : decode cX3_gain 22 = .ok (.getfield 30, 3) := zk_of (zk_l (zk_r (zk_r (zk_r (zk_l zdX3_gain_0)))))
theorem dX3_gain_25 : decode cX3_gain 25 = .ok (.iload_n 1, 1) := zk_of (zk_r (zk_r (zk_r (zk_r (zk_l zdX3_gain_0)))))
theorem dX3_gain_26 : decode cX3_gain 26 = .ok (.iaload, 1) := zk_of (zk_l (zk_l (zk_l (zk_l (zk_r zdX3_gain_0)))))
theorem dX3_gain_27 : decode cX3_gain 27 = .ok (.iload_n 3, 1) := zk_of (zk_r (zk_l (zk_l (zk_l (zk_r zdX3_gain_0)))))
theorem dX3_gain_28 : decode cX3_gain 28 = .ok (.invokestatic 79, 3) := zk_of (zk_l (zk_r (zk_l (zk_l (zk_r zdX3_gain_0)))))
theorem dX3_gain_31 : decode cX3_gain 31 = .ok (.aload_n 0, 1) := zk_of (zk_r (zk_r (zk_l (zk_l (zk_r zdX3_gain_0)))))
theorem dX3_gain_32 : decode cX3_gain 32 = .ok (.getfield 33, 3) := zk_of (zk_l (zk_l (zk_r (zk_l (zk_r zdX3_gain_0)))))
theorem dX3_gain_35 : decode cX3_gain 35 = .ok (.iload_n 1, 1) := zk_of (zk_r (zk_l (zk_r (zk_l (zk_r zdX3_gain_0)))))
theorem dX3_gain_36 : decode cX3_gain 36 = .ok (.iaload, 1) := zk_of (zk_l (zk_r (zk_r (zk_l (zk_r zdX3_gain_0)))))
theorem dX3_gain_37 : decode cX3_gain 37 = .ok (.aload_n 0, 1) := zk_of (zk_r (zk_r (zk_r (zk_l (zk_r zdX3_gain_0)))))
theorem dX3_gain_38 : decode cX3_gain 38 = .ok (.getfield 36, 3) := zk_of (zk_l (zk_l (zk_l (zk_r (zk_r zdX3_gain_0)))))
theorem dX3_gain_41 : decode cX3_gain 41 = .ok (.iload_n 1, 1) := zk_of (zk_r (zk_l (zk_l (zk_r (zk_r zdX3_gain_0)))))
theorem dX3_gain_42 : decode cX3_gain 42 = .ok (.iaload, 1) := zk_of (zk_l (zk_r (zk_l (zk_r (zk_r zdX3_gain_0)))))
theorem dX3_gain_43 : decode cX3_gain 43 = .ok (.iload_n 3, 1) := zk_of (zk_r (zk_r (zk_l (zk_r (zk_r zdX3_gain_0)))))
theorem dX3_gain_44 : decode cX3_gain 44 = .ok (.invokestatic 79, 3) := zk_of (zk_l (zk_l (zk_r (zk_r (zk_r zdX3_gain_0)))))
theorem dX3_gain_47 : decode cX3_gain 47 = .ok (.isub, 1) := zk_of (zk_r (zk_l (zk_r (zk_r (zk_r zdX3_gain_0)))))
theorem dX3_gain_48 : decode cX3_gain 48 = .ok (.ireturn, 1) := zk_of (zk_r (zk_r (zk_r (zk_r zdX3_gain_0))))
set_option maxRecDepth 20000 in
theorem ggX3_gain_X7_leanOf : GoodIn wsX3_gain wsX7_leanOf := ggi (fun w h => List.mem_cons_of_mem _ (List.mem_append_left _ (List.mem_append_left _ (List.mem_append_left _ (List.mem_append_left _ (List.mem_append_left _ (List.mem_append_right _ (List.mem_append_left _ h)))))))) gs_X7_leanOf
set_option maxRecDepth 20000 in
theorem gX3_gain_X7_leanOf : GoodIn wsX3_gain (wsV RX3 73 RX7 yX7_leanOf wsX7_leanOf) := goodIn_app (goodIn_of _ (by decide +kernel)) ggX3_gain_X7_leanOf
set_option maxRecDepth 20000 in
theorem ggX3_gain_X11_spread : GoodIn wsX3_gain wsX11_spread := ggi (fun w h => List.mem_cons_of_mem _ (List.mem_append_left _ (List.mem_append_left _ (List.mem_append_left _ (List.mem_append_left _ (List.mem_append_left _ (List.mem_append_right _ (List.mem_append_right _ h)))))))) gs_X11_spread
set_option maxRecDepth 20000 in
theorem gX3_gain_X11_spread_n79 : GoodIn wsX3_gain (wsX11_spread) := ggX3_gain_X11_spread
/-- HissHorn$Looks.gain(II)I of cell 10 -/
def rmX3_gain_10 : Room := { frames := 5, cells := 0, slots := 0, locals := 111 }
theorem hX3_gain_10_X3 : ∀ w ∈ u_ws RX3 TX3 19, w ∈ wsX3_gain := fun w h => (List.mem_cons_of_mem _ (List.mem_append_left _ (List.mem_append_left _ (List.mem_append_left _ (List.mem_append_left _ (List.mem_append_right _ h))))))
theorem mX3_gain_10_1 : Cond.fieldLink RX3 45 "HissHorn$Looks" "readings" "LHissHorn$Readings;" ∈ wsX3_gain := (List.mem_cons_of_mem _ (List.mem_append_left _ (List.mem_append_left _ (List.mem_append_left _ (List.mem_append_left _ (List.mem_append_left _ (List.mem_append_left _ (List.mem_of_getElem? (i := 4) rfl))))))))
theorem mX3_gain_10_2 : Cond.fieldLink RX3 9 "HissHorn$Looks" "part" "[I" ∈ wsX3_gain := (List.mem_cons_of_mem _ (List.mem_append_left _ (List.mem_append_left _ (List.mem_append_left _ (List.mem_append_left _ (List.mem_append_left _ (List.mem_append_left _ (List.mem_of_getElem? (i := 5) rfl))))))))
theorem mX3_gain_10_3 : Cond.fieldLink RX3 27 "HissHorn$Looks" "aheadFrom" "[I" ∈ wsX3_gain := (List.mem_cons_of_mem _ (List.mem_append_left _ (List.mem_append_left _ (List.mem_append_left _ (List.mem_append_left _ (List.mem_append_left _ (List.mem_append_left _ (List.mem_of_getElem? (i := 6) rfl))))))))
theorem mX3_gain_10_4 : Cond.fieldLink RX3 30 "HissHorn$Looks" "aheadTo" "[I" ∈ wsX3_gain := (List.mem_cons_of_mem _ (List.mem_append_left _ (List.mem_append_left _ (List.mem_append_left _ (List.mem_append_left _ (List.mem_append_left _ (List.mem_append_left _ (List.mem_of_getElem? (i := 7) rfl))))))))
theorem mX3_gain_10_5 : Cond.initialized RX11 ∈ wsX3_gain := (List.mem_cons_of_mem _ (List.mem_append_left _ (List.mem_append_left _ (List.mem_append_left _ (List.mem_append_left _ (List.mem_append_left _ (List.mem_append_left _ (List.mem_of_getElem? (i := 8) rfl))))))))
theorem mX3_gain_10_6 : Cond.static yX11_spread ∈ wsX3_gain := (List.mem_cons_of_mem _ (List.mem_append_left _ (List.mem_append_left _ (List.mem_append_left _ (List.mem_append_left _ (List.mem_append_left _ (List.mem_append_left _ (List.mem_of_getElem? (i := 9) rfl))))))))
theorem mX3_gain_10_7 : Cond.fieldLink RX3 33 "HissHorn$Looks" "behindFrom" "[I" ∈ wsX3_gain := (List.mem_cons_of_mem _ (List.mem_append_left _ (List.mem_append_left _ (List.mem_append_left _ (List.mem_append_left _ (List.mem_append_left _ (List.mem_append_left _ (List.mem_of_getElem? (i := 10) rfl))))))))
theorem mX3_gain_10_8 : Cond.fieldLink RX3 36 "HissHorn$Looks" "behindTo" "[I" ∈ wsX3_gain := (List.mem_cons_of_mem _ (List.mem_append_left _ (List.mem_append_left _ (List.mem_append_left _ (List.mem_append_left _ (List.mem_append_left _ (List.mem_append_left _ (List.mem_of_getElem? (i := 11) rfl))))))))
def fX3_gain_10 (x1 : Int32) (x2 : Int32) (u : SX) : Option (Int32 × SX) := (gd (inb x1 10) ((fX7_leanOf_7 x2 (u.2.1 48 x1.toNatClampNeg) u).bind fun q => match q with | (r2, u3) => (gd (inb x1 10) (gd (inb x1 10) ((fX11_spread (u3.2.1 53 x1.toNatClampNeg) (u3.2.1 54 x1.toNatClampNeg) r2).bind fun r7 => (gd (inb x1 10) (gd (inb x1 10) ((fX11_spread (u3.2.1 55 x1.toNatClampNeg) (u3.2.1 56 x1.toNatClampNeg) r2).bind fun r12 => (some (r7 - r12, u3))))))))))
set_option maxHeartbeats 4000000 in
set_option maxRecDepth 100000 in
theorem wX3_gain_10 {p : Program} {l : Launch} {e : Env} {s : State} {m : MethodId} {args : Array Value} {below : List Frame} {meth : Method} {c : Code} {D : va_G} {cy : Nat → ClassId} {ad st : Nat → Nat} (C : Cx RX3 cX3_gain 4 (some .int) wsX3_gain p s m args meth c) (hK : Ky D [(cy 0, .int), (cy 1, .long), (cy 2, .boolean), (cy 3, .byte), (cy 4, .object "HissHorn$Text")] st s) (hJ : JX ad st) (x1 : Int32) (x2 : Int32) {u : SX} {r : Int32} {u' : SX} {H : Heap} {locs : List Loc} {ls : Array Slot} (h : fX3_gain_10 x1 x2 u = some (r, u')) (hP : va_P D vwCl (VX cy ad st u) H) (hS : va_S (Ax (AX ad) s.heap.size) s.heap H locs) (hl : lv_has ls 4 [(0, .ref (ad 10)), (1, .int x1), (2, .int x2)]) : W p l e rmX3_gain_10 s m args below meth c H locs 0 0 (MQ below (Qi D (VX cy ad st) (AX ad) s.heap.size r u') args s 0 0 (Ax (AX ad) s.heap.size)) (F0 m 0 ls []) := by
  unfold fX3_gain_10 at h
  refine lv_aload_n C.1 C.2.1 dX3_gain_0 rfl (lv_at hl 0 rfl) ?_
  refine gX_10_readings C hX3_gain_10_X3 hK hP mX3_gain_10_1 dX3_gain_1 ?_
  refine lv_iload_n C.1 C.2.1 dX3_gain_4 rfl (lv_at hl 2 rfl) ?_
  refine lv_aload_n C.1 C.2.1 dX3_gain_5 rfl (lv_at hl 0 rfl) ?_
  refine gX_10_part C hX3_gain_10_X3 hK hP mX3_gain_10_2 dX3_gain_6 ?_
  refine lv_iload_n C.1 C.2.1 dX3_gain_9 rfl (lv_at hl 1 rfl) ?_
  obtain ⟨hg1, h⟩ := gd_some h
  refine lX_48 C hK hP hg1 dX3_gain_10 ?_
  obtain ⟨⟨r2, u3⟩, hc4, h⟩ := bd_some h
  try dsimp only at h
  refine cg_i (As := [.int x2, .int (u.2.1 48 x1.toNatClampNeg)]) (rest := []) (AX_ge hJ) C hK hP hS (metX7_leanOf_7 l D cy ad st hJ _ x2 (u.2.1 48 x1.toNatClampNeg) hc4) (cwV 2 C.2.2.2.2.2.1 gX3_gain_X7_leanOf rfl rfl rfl (by decide +kernel) ⟨(Nat.le_of_ble_eq_true rfl), (Nat.le_of_ble_eq_true rfl)⟩) 7 7 rfl rfl rfl hl.1 rfl (Nat.le_of_ble_eq_true rfl) dX3_gain_11 ⟨Nat.zero_le _, Nat.zero_le _⟩ (fun H locs hP hS => ?_)
  refine lv_istore_n (lv' := [(3, .int r2), (0, .ref (ad 10)), (1, .int x1), (2, .int x2)]) C.1 C.2.1 dX3_gain_14 rfl hl (by decide) rfl (fun ls hl => ?_)
  replace hl := lv_sub (l' := [(0, .ref (ad 10)), (1, .int x1), (2, .int x2), (3, .int r2)]) hl [1, 2, 3, 0] rfl
  refine lv_aload_n C.1 C.2.1 dX3_gain_15 rfl (lv_at hl 0 rfl) ?_
  refine gX_10_aheadFrom C hX3_gain_10_X3 hK hP mX3_gain_10_3 dX3_gain_16 ?_
  refine lv_iload_n C.1 C.2.1 dX3_gain_19 rfl (lv_at hl 1 rfl) ?_
  obtain ⟨hg5, h⟩ := gd_some h
  refine lX_53 C hK hP hg5 dX3_gain_20 ?_
  refine lv_aload_n C.1 C.2.1 dX3_gain_21 rfl (lv_at hl 0 rfl) ?_
  refine gX_10_aheadTo C hX3_gain_10_X3 hK hP mX3_gain_10_4 dX3_gain_22 ?_
  refine lv_iload_n C.1 C.2.1 dX3_gain_25 rfl (lv_at hl 1 rfl) ?_
  obtain ⟨hg6, h⟩ := gd_some h
  refine lX_54 C hK hP hg6 dX3_gain_26 ?_
  refine lv_iload_n C.1 C.2.1 dX3_gain_27 rfl (lv_at hl 3 rfl) ?_
  obtain ⟨r7, hc9, h⟩ := bd_some h
  refine csn_i (As := [.int (u3.2.1 53 x1.toNatClampNeg), .int (u3.2.1 54 x1.toNatClampNeg), .int r2]) (rest := []) (AX_ge hJ) C hK hP hS (metX11_spread l D cy st _ (u3.2.1 53 x1.toNatClampNeg) (u3.2.1 54 x1.toNatClampNeg) r2 hc9) ⟨va_cnB 3 C.2.2.2.2.2.1 gX3_gain_X11_spread_n79 rfl rfl rfl (hK.2.1 (RX3, 79, yX11_spread) (by decide +kernel)) (C.2.2.2.2.2.1 _ mX3_gain_10_5) (by decide +kernel) ⟨(Nat.le_of_ble_eq_true rfl), (Nat.le_of_ble_eq_true rfl)⟩, C.2.2.2.2.2.1 _ mX3_gain_10_6, trivial⟩ rfl hl.1 rfl (Nat.le_of_ble_eq_true rfl) dX3_gain_28 ⟨Nat.zero_le _, Nat.zero_le _⟩ (fun H locs hP hS => ?_)
  refine lv_aload_n C.1 C.2.1 dX3_gain_31 rfl (lv_at hl 0 rfl) ?_
  refine gX_10_behindFrom C hX3_gain_10_X3 hK hP mX3_gain_10_7 dX3_gain_32 ?_
  refine lv_iload_n C.1 C.2.1 dX3_gain_35 rfl (lv_at hl 1 rfl) ?_
  obtain ⟨hg10, h⟩ := gd_some h
  refine lX_55 C hK hP hg10 dX3_gain_36 ?_
  refine lv_aload_n C.1 C.2.1 dX3_gain_37 rfl (lv_at hl 0 rfl) ?_
  refine gX_10_behindTo C hX3_gain_10_X3 hK hP mX3_gain_10_8 dX3_gain_38 ?_
  refine lv_iload_n C.1 C.2.1 dX3_gain_41 rfl (lv_at hl 1 rfl) ?_
  obtain ⟨hg11, h⟩ := gd_some h
  refine lX_56 C hK hP hg11 dX3_gain_42 ?_
  refine lv_iload_n C.1 C.2.1 dX3_gain_43 rfl (lv_at hl 3 rfl) ?_
  obtain ⟨r12, hc14, h⟩ := bd_some h
  refine csn_i (As := [.int (u3.2.1 55 x1.toNatClampNeg), .int (u3.2.1 56 x1.toNatClampNeg), .int r2]) (rest := [.int r7]) (AX_ge hJ) C hK hP hS (metX11_spread l D cy st _ (u3.2.1 55 x1.toNatClampNeg) (u3.2.1 56 x1.toNatClampNeg) r2 hc14) ⟨va_cnB 3 C.2.2.2.2.2.1 gX3_gain_X11_spread_n79 rfl rfl rfl (hK.2.1 (RX3, 79, yX11_spread) (by decide +kernel)) (C.2.2.2.2.2.1 _ mX3_gain_10_5) (by decide +kernel) ⟨(Nat.le_of_ble_eq_true rfl), (Nat.le_of_ble_eq_true rfl)⟩, C.2.2.2.2.2.1 _ mX3_gain_10_6, trivial⟩ rfl hl.1 rfl (Nat.le_of_ble_eq_true rfl) dX3_gain_44 ⟨Nat.zero_le _, Nat.zero_le _⟩ (fun H locs hP hS => ?_)
  refine lv_isub C.1 C.2.1 dX3_gain_47 ?_
  cases h
  exact rt_i C hP hS dX3_gain_48
theorem metX3_gain_10 (l : Launch) (D : va_G) (cy : Nat → ClassId) (ad st : Nat → Nat) (hJ : JX ad st) (sz : Nat) (x1 : Int32) (x2 : Int32) {u : SX} {r : Int32} {u' : SX} (h : fX3_gain_10 x1 x2 u = some (r, u')) : Met l yX3_gain wsX3_gain rmX3_gain_10 (va_Pc [.ref (ad 10), .int x1, .int x2] (Px D [(cy 0, .int), (cy 1, .long), (cy 2, .boolean), (cy 3, .byte), (cy 4, .object "HissHorn$Text")] st (VX cy ad st) sz u)) (Qi D (VX cy ad st) (AX ad) sz r u') 0 0 (Ax (AX ad) sz) := by
  refine Met.ofW (cc := cX3_gain) (maxL := 4) (ret := (some .int)) (by decide) rfl ?_
  intro p e s m args below meth c s₁ B hml hv
  obtain ⟨rfl, hsz, hP, hK⟩ := hv
  subst hsz
  have C : Cx RX3 cX3_gain 4 (some .int) wsX3_gain p s m _ meth c := ⟨B.exec, B.bytes, hml, B.returns, findClass_of_methodNamed B.named, atoms_spec (ws := wsX3_gain) B.pre, B.notSynchronized⟩
  have hl := lv_entry ([.ref (ad 10), .int x1, .int x2]) (n := 4) (Nat.le_of_ble_eq_true rfl)
  rw [lg_entry_eq]
  exact wX3_gain_10 C hK hJ x1 x2 h hP va_S.rf hl

theorem zdX11_narrows_0 : (and (and (and (and (and (zk cX11_narrows 0 (.aload_n 0) 1) (zk cX11_narrows 1 (.getfield 83) 3)) (zk cX11_narrows 4 (.iload_n 1) 1)) (and (and (zk cX11_narrows 5 (.invokevirtual 255) 3) (zk cX11_narrows 8 (.ifCond .eq 25) 3)) (zk cX11_narrows 33 (.ldc 194) 2))) (and (and (and (zk cX11_narrows 35 (.ireturn) 1) (zk cX11_narrows 11 (.aload_n 0) 1)) (zk cX11_narrows 12 (.getfield 83) 3)) (and (and (zk cX11_narrows 15 (.iload_n 1) 1) (zk cX11_narrows 16 (.invokevirtual 256) 3)) (zk cX11_narrows 19 (.ifCond .eq 14) 3)))) (and (and (and (and (zk cX11_narrows 22 (.aload_n 0) 1) (zk cX11_narrows 23 (.getfield 58) 3)) (zk cX11_narrows 26 (.iload_n 2) 1)) (and (and (zk cX11_narrows 27 (.invokevirtual 212) 3) (zk cX11_narrows 30 (.ifCond .ne 6) 3)) (zk cX11_narrows 36 (.aload_n 0) 1))) (and (and (and (zk cX11_narrows 37 (.getfield 83) 3) (zk cX11_narrows 40 (.iload_n 1) 1)) (zk cX11_narrows 41 (.iload_n 2) 1)) (and (zk cX11_narrows 42 (.invokevirtual 273) 3) (zk cX11_narrows 45 (.ireturn) 1))))) = true := by decide +kernel
theorem dX11_narrows_0 : decode cX11_narrows 0 = .ok (.aload_n 0, 1) := zk_of (zk_l (zk_l (zk_l (zk_l (zk_l zdX11_narrows_0)))))
theorem dX11_narrows_1 : decode cX11_narrows 1 = .ok (.getfield 83, 3) := zk_of (zk_r (zk_l (zk_l (zk_l (zk_l zdX11_narrows_0)))))
theorem dX11_narrows_4 : decode cX11_narrows 4 = .ok (.iload_n 1, 1) := zk_of (zk_r (zk_l (zk_l (zk_l zdX11_narrows_0))))
theorem dX11_narrows_5 : decode cX11_narrows 5 = .ok (.invokevirtual 255, 3) := zk_of (zk_l (zk_l (zk_r (zk_l (zk_l zdX11_narrows_0)))))
theorem dX11_narrows_8 : decode cX11_narrows 8 = .ok (.ifCond .eq 25, 3) := zk_of (zk_r (zk_l (zk_r (zk_l (zk_l zdX11_narrows_0)))))
theorem dX11_narrows_33 : decode cX11_narrows 33 = .ok (.ldc 194, 2) := zk_of (zk_r (zk_r (zk_l (zk_l zdX11_narrows_0))))
theorem dX11_narrows_35 : decode cX11_narrows 35 = .ok (.ireturn, 1) := zk_of (zk_l (zk_l (zk_l (zk_r (zk_l zdX11_narrows_0)))))
theorem dX11_narrows_11 : decode cX11_narrows 11 = .ok (.aload_n 0, 1) := zk_of (zk_r (zk_l (zk_l (zk_r (zk_l zdX11_narrows_0)))))
theorem dX11_narrows_12 : decode cX11_narrows 12 = .ok (.getfield 83, 3) := zk_of (zk_r (zk_l (zk_r (zk_l zdX11_narrows_0))))
theorem dX11_narrows_15 : decode cX11_narrows 15 = .ok (.iload_n 1, 1) := zk_of (zk_l (zk_l (zk_r (zk_r (zk_l zdX11_narrows_0)))))
theorem dX11_narrows_16 : decode cX11_narrows 16 = .ok (.invokevirtual 256, 3) := zk_of (zk_r (zk_l (zk_r (zk_r (zk_l zdX11_narrows_0)))))
theorem dX11_narrows_19 : decode cX11_narrows 19 = .ok (.ifCond .eq 14, 3) := zk_of (zk_r (zk_r (zk_r (zk_l zdX11_narrows_0))))
theorem dX11_narrows_22 : decode cX11_narrows 22 = .ok (.aload_n 0, 1) := zk_of (zk_l (zk_l (zk_l (zk_l (zk_r zdX11_narrows_0)))))
theorem dX11_narrows_23 : decode cX11_narrows 23 = .ok (.getfield 58, 3) := zk_of (zk_r (zk_l (zk_l (zk_l (zk_r zdX11_narrows_0)))))
theorem dX11_narrows_26 : decode cX11_narrows 26 = .ok (.iload_n 2, 1) := zk_of (zk_r (zk_l (zk_l (zk_r zdX11_narrows_0))))
theorem dX11_narrows_27 : decode cX11_narrows 27 = .ok (.invokevirtual 212, 3) := zk_of (zk_l (zk_l (zk_r (zk_l (zk_r zdX11_narrows_0)))))
theorem dX11_narrows_30 : decode cX11_narrows 30 = .ok (.ifCond .ne 6, 3) := zk_of (zk_r (zk_l (zk_r (zk_l (zk_r zdX11_narrows_0)))))
theorem dX11_narrows_36 : decode cX11_narrows 36 = .ok (.aload_n 0, 1) := zk_of (zk_r (zk_r (zk_l (zk_r zdX11_narrows_0))))
theorem dX11_narrows_37 : decode cX11_narrows 37 = .ok (.getfield 83, 3) := zk_of (zk_l (zk_l (zk_l (zk_r (zk_r zdX11_narrows_0)))))
theorem dX11_narrows_40 : decode cX11_narrows 40 = .ok (.iload_n 1, 1) := zk_of (zk_r (zk_l (zk_l (zk_r (zk_r zdX11_narrows_0)))))
theorem dX11_narrows_41 : decode cX11_narrows 41 = .ok (.iload_n 2, 1) := zk_of (zk_r (zk_l (zk_r (zk_r zdX11_narrows_0))))
theorem dX11_narrows_42 : decode cX11_narrows 42 = .ok (.invokevirtual 273, 3) := zk_of (zk_l (zk_r (zk_r (zk_r zdX11_narrows_0))))
theorem dX11_narrows_45 : decode cX11_narrows 45 = .ok (.ireturn, 1) := zk_of (zk_r (zk_r (zk_r (zk_r zdX11_narrows_0))))
set_option maxRecDepth 20000 in
theorem ggX11_narrows_X3_has : GoodIn wsX11_narrows wsX3_has := ggi (fun w h => List.mem_cons_of_mem _ (List.mem_append_left _ (List.mem_append_left _ (List.mem_append_left _ (List.mem_append_left _ (List.mem_append_left _ (List.mem_append_left _ (List.mem_append_right _ (List.mem_append_left _ h))))))))) gs_X3_has
set_option maxRecDepth 20000 in
theorem gX11_narrows_X3_has : GoodIn wsX11_narrows (wsV RX11 255 RX3 yX3_has wsX3_has) := goodIn_app (goodIn_of _ (by decide +kernel)) ggX11_narrows_X3_has
set_option maxRecDepth 20000 in
theorem ggX11_narrows_X3_isDone : GoodIn wsX11_narrows wsX3_isDone := ggi (fun w h => List.mem_cons_of_mem _ (List.mem_append_left _ (List.mem_append_left _ (List.mem_append_left _ (List.mem_append_left _ (List.mem_append_left _ (List.mem_append_left _ (List.mem_append_right _ (List.mem_append_right _ (List.mem_append_left _ h)))))))))) gs_X3_isDone
set_option maxRecDepth 20000 in
theorem gX11_narrows_X3_isDone : GoodIn wsX11_narrows (wsV RX11 256 RX3 yX3_isDone wsX3_isDone) := goodIn_app (goodIn_of _ (by decide +kernel)) ggX11_narrows_X3_isDone
set_option maxRecDepth 20000 in
theorem ggX11_narrows_X7_has : GoodIn wsX11_narrows wsX7_has := ggi (fun w h => List.mem_cons_of_mem _ (List.mem_append_left _ (List.mem_append_left _ (List.mem_append_left _ (List.mem_append_left _ (List.mem_append_left _ (List.mem_append_left _ (List.mem_append_right _ (List.mem_append_right _ (List.mem_append_right _ (List.mem_append_left _ h))))))))))) gs_X7_has
set_option maxRecDepth 20000 in
theorem gX11_narrows_X7_has : GoodIn wsX11_narrows (wsV RX11 212 RX7 yX7_has wsX7_has) := goodIn_app (goodIn_of _ (by decide +kernel)) ggX11_narrows_X7_has
set_option maxRecDepth 20000 in
theorem ggX11_narrows_X3_gain : GoodIn wsX11_narrows wsX3_gain := ggi (fun w h => List.mem_cons_of_mem _ (List.mem_append_left _ (List.mem_append_left _ (List.mem_append_left _ (List.mem_append_left _ (List.mem_append_left _ (List.mem_append_left _ (List.mem_append_right _ (List.mem_append_right _ (List.mem_append_right _ (List.mem_append_right _ h))))))))))) gs_X3_gain
set_option maxRecDepth 20000 in
theorem gX11_narrows_X3_gain : GoodIn wsX11_narrows (wsV RX11 273 RX3 yX3_gain wsX3_gain) := goodIn_app (goodIn_of _ (by decide +kernel)) ggX11_narrows_X3_gain
/-- HissHorn.narrows(II)I of cell 0 -/
def rmX11_narrows_0 : Room := { frames := 6, cells := 0, slots := 0, locals := 134 }
theorem hX11_narrows_0_X11 : ∀ w ∈ u_ws RX11 TX11 13, w ∈ wsX11_narrows := fun w h => (List.mem_cons_of_mem _ (List.mem_append_left _ (List.mem_append_left _ (List.mem_append_left _ (List.mem_append_left _ (List.mem_append_left _ (List.mem_append_right _ h)))))))
theorem mX11_narrows_0_1 : Cond.fieldLink RX11 83 "HissHorn" "looks" "LHissHorn$Looks;" ∈ wsX11_narrows := (List.mem_cons_of_mem _ (List.mem_append_left _ (List.mem_append_left _ (List.mem_append_left _ (List.mem_append_left _ (List.mem_append_left _ (List.mem_append_left _ (List.mem_append_left _ (List.mem_of_getElem? (i := 14) rfl)))))))))
theorem mX11_narrows_0_2 : Cond.constant RX11 194 (-100000000) ∈ wsX11_narrows := (List.mem_cons_of_mem _ (List.mem_append_left _ (List.mem_append_left _ (List.mem_append_left _ (List.mem_append_left _ (List.mem_append_left _ (List.mem_append_left _ (List.mem_append_left _ (List.mem_of_getElem? (i := 15) rfl)))))))))
theorem mX11_narrows_0_3 : Cond.fieldLink RX11 58 "HissHorn" "readings" "LHissHorn$Readings;" ∈ wsX11_narrows := (List.mem_cons_of_mem _ (List.mem_append_left _ (List.mem_append_left _ (List.mem_append_left _ (List.mem_append_left _ (List.mem_append_left _ (List.mem_append_left _ (List.mem_append_left _ (List.mem_of_getElem? (i := 16) rfl)))))))))
def fX11_narrows_0 (x1 : Int32) (x2 : Int32) (u : SX) : Option (Int32 × SX) := ((fX3_has_10 x1 u).bind fun q => match q with | (r1, u2) => (if r1 = 0 then (some ((-100000000), u2)) else ((fX3_isDone_10 x1 u2).bind fun q => match q with | (r4, u5) => (if r4 = 0 then (some ((-100000000), u5)) else ((fX7_has_7 x2 u5).bind fun q => match q with | (r7, u8) => (if r7 = 0 then (some ((-100000000), u8)) else ((fX3_gain_10 x1 x2 u8).bind fun q => match q with | (r10, u11) => (some (r10, u11)))))))))
set_option maxHeartbeats 4000000 in
set_option maxRecDepth 100000 in
theorem wX11_narrows_0 {p : Program} {l : Launch} {e : Env} {s : State} {m : MethodId} {args : Array Value} {below : List Frame} {meth : Method} {c : Code} {D : va_G} {cy : Nat → ClassId} {ad st : Nat → Nat} (C : Cx RX11 cX11_narrows 3 (some .int) wsX11_narrows p s m args meth c) (hK : Ky D [(cy 0, .int), (cy 1, .long), (cy 2, .boolean), (cy 3, .byte), (cy 4, .object "HissHorn$Text")] st s) (hJ : JX ad st) (x1 : Int32) (x2 : Int32) {u : SX} {r : Int32} {u' : SX} {H : Heap} {locs : List Loc} {ls : Array Slot} (h : fX11_narrows_0 x1 x2 u = some (r, u')) (hP : va_P D vwCl (VX cy ad st u) H) (hS : va_S (Ax (AX ad) s.heap.size) s.heap H locs) (hl : lv_has ls 3 [(0, .ref (ad 0)), (1, .int x1), (2, .int x2)]) : W p l e rmX11_narrows_0 s m args below meth c H locs 0 0 (MQ below (Qi D (VX cy ad st) (AX ad) s.heap.size r u') args s 0 0 (Ax (AX ad) s.heap.size)) (F0 m 0 ls []) := by
  unfold fX11_narrows_0 at h
  refine lv_aload_n C.1 C.2.1 dX11_narrows_0 rfl (lv_at hl 0 rfl) ?_
  refine gX_0_looks C hX11_narrows_0_X11 hK hP mX11_narrows_0_1 dX11_narrows_1 ?_
  refine lv_iload_n C.1 C.2.1 dX11_narrows_4 rfl (lv_at hl 1 rfl) ?_
  obtain ⟨⟨r1, u2⟩, hc3, h⟩ := bd_some h
  try dsimp only at h
  refine cg_i (As := [.int x1]) (rest := []) (AX_ge hJ) C hK hP hS (metX3_has_10 l D cy ad st hJ _ x1 hc3) (cwV 1 C.2.2.2.2.2.1 gX11_narrows_X3_has rfl rfl rfl (by decide +kernel) ⟨(Nat.le_of_ble_eq_true rfl), (Nat.le_of_ble_eq_true rfl)⟩) 10 3 rfl rfl rfl hl.1 rfl (Nat.le_of_ble_eq_true rfl) dX11_narrows_5 ⟨Nat.zero_le _, Nat.zero_le _⟩ (fun H locs hP hS => ?_)
  refine lv_if_eq (tgt := 33) C.1 C.2.1 dX11_narrows_8 (by decide) (fun c8 => ?_) (fun c8 => ?_)
  · rw [if_pos c8] at h
    refine lv_ldc C.1 C.2.1 C.2.2.2.2.1 (C.2.2.2.2.2.1 _ mX11_narrows_0_2) dX11_narrows_33 ?_
    cases h
    exact rt_i C hP hS dX11_narrows_35
  · rw [if_neg c8] at h
    refine lv_aload_n C.1 C.2.1 dX11_narrows_11 rfl (lv_at hl 0 rfl) ?_
    refine gX_0_looks C hX11_narrows_0_X11 hK hP mX11_narrows_0_1 dX11_narrows_12 ?_
    refine lv_iload_n C.1 C.2.1 dX11_narrows_15 rfl (lv_at hl 1 rfl) ?_
    obtain ⟨⟨r4, u5⟩, hc6, h⟩ := bd_some h
    try dsimp only at h
    refine cg_i (As := [.int x1]) (rest := []) (AX_ge hJ) C hK hP hS (metX3_isDone_10 l D cy ad st hJ _ x1 hc6) (cwV 1 C.2.2.2.2.2.1 gX11_narrows_X3_isDone rfl rfl rfl (by decide +kernel) ⟨(Nat.le_of_ble_eq_true rfl), (Nat.le_of_ble_eq_true rfl)⟩) 10 3 rfl rfl rfl hl.1 rfl (Nat.le_of_ble_eq_true rfl) dX11_narrows_16 ⟨Nat.zero_le _, Nat.zero_le _⟩ (fun H locs hP hS => ?_)
    refine lv_if_eq (tgt := 33) C.1 C.2.1 dX11_narrows_19 (by decide) (fun c19 => ?_) (fun c19 => ?_)
    · rw [if_pos c19] at h
      refine lv_ldc C.1 C.2.1 C.2.2.2.2.1 (C.2.2.2.2.2.1 _ mX11_narrows_0_2) dX11_narrows_33 ?_
      cases h
      exact rt_i C hP hS dX11_narrows_35
    · rw [if_neg c19] at h
      refine lv_aload_n C.1 C.2.1 dX11_narrows_22 rfl (lv_at hl 0 rfl) ?_
      refine gX_0_readings C hX11_narrows_0_X11 hK hP mX11_narrows_0_3 dX11_narrows_23 ?_
      refine lv_iload_n C.1 C.2.1 dX11_narrows_26 rfl (lv_at hl 2 rfl) ?_
      obtain ⟨⟨r7, u8⟩, hc9, h⟩ := bd_some h
      try dsimp only at h
      refine cg_i (As := [.int x2]) (rest := []) (AX_ge hJ) C hK hP hS (metX7_has_7 l D cy ad st hJ _ x2 hc9) (cwV 1 C.2.2.2.2.2.1 gX11_narrows_X7_has rfl rfl rfl (by decide +kernel) ⟨(Nat.le_of_ble_eq_true rfl), (Nat.le_of_ble_eq_true rfl)⟩) 7 7 rfl rfl rfl hl.1 rfl (Nat.le_of_ble_eq_true rfl) dX11_narrows_27 ⟨Nat.zero_le _, Nat.zero_le _⟩ (fun H locs hP hS => ?_)
      refine lv_if_ne (tgt := 36) C.1 C.2.1 dX11_narrows_30 (by decide) (fun c30 => ?_) (fun c30 => ?_)
      · rw [if_neg c30] at h
        refine lv_aload_n C.1 C.2.1 dX11_narrows_36 rfl (lv_at hl 0 rfl) ?_
        refine gX_0_looks C hX11_narrows_0_X11 hK hP mX11_narrows_0_1 dX11_narrows_37 ?_
        refine lv_iload_n C.1 C.2.1 dX11_narrows_40 rfl (lv_at hl 1 rfl) ?_
        refine lv_iload_n C.1 C.2.1 dX11_narrows_41 rfl (lv_at hl 2 rfl) ?_
        obtain ⟨⟨r10, u11⟩, hc12, h⟩ := bd_some h
        try dsimp only at h
        refine cg_i (As := [.int x1, .int x2]) (rest := []) (AX_ge hJ) C hK hP hS (metX3_gain_10 l D cy ad st hJ _ x1 x2 hc12) (cwV 2 C.2.2.2.2.2.1 gX11_narrows_X3_gain rfl rfl rfl (by decide +kernel) ⟨(Nat.le_of_ble_eq_true rfl), (Nat.le_of_ble_eq_true rfl)⟩) 10 3 rfl rfl rfl hl.1 rfl (Nat.le_of_ble_eq_true rfl) dX11_narrows_42 ⟨Nat.zero_le _, Nat.zero_le _⟩ (fun H locs hP hS => ?_)
        cases h
        exact rt_i C hP hS dX11_narrows_45
      · rw [if_pos c30] at h
        refine lv_ldc C.1 C.2.1 C.2.2.2.2.1 (C.2.2.2.2.2.1 _ mX11_narrows_0_2) dX11_narrows_33 ?_
        cases h
        exact rt_i C hP hS dX11_narrows_35
theorem metX11_narrows_0 (l : Launch) (D : va_G) (cy : Nat → ClassId) (ad st : Nat → Nat) (hJ : JX ad st) (sz : Nat) (x1 : Int32) (x2 : Int32) {u : SX} {r : Int32} {u' : SX} (h : fX11_narrows_0 x1 x2 u = some (r, u')) : Met l yX11_narrows wsX11_narrows rmX11_narrows_0 (va_Pc [.ref (ad 0), .int x1, .int x2] (Px D [(cy 0, .int), (cy 1, .long), (cy 2, .boolean), (cy 3, .byte), (cy 4, .object "HissHorn$Text")] st (VX cy ad st) sz u)) (Qi D (VX cy ad st) (AX ad) sz r u') 0 0 (Ax (AX ad) sz) := by
  refine Met.ofW (cc := cX11_narrows) (maxL := 3) (ret := (some .int)) (by decide) rfl ?_
  intro p e s m args below meth c s₁ B hml hv
  obtain ⟨rfl, hsz, hP, hK⟩ := hv
  subst hsz
  have C : Cx RX11 cX11_narrows 3 (some .int) wsX11_narrows p s m _ meth c := ⟨B.exec, B.bytes, hml, B.returns, findClass_of_methodNamed B.named, atoms_spec (ws := wsX11_narrows) B.pre, B.notSynchronized⟩
  have hl := lv_entry ([.ref (ad 0), .int x1, .int x2]) (n := 3) (Nat.le_of_ble_eq_true rfl)
  rw [lg_entry_eq]
  exact wX11_narrows_0 C hK hJ x1 x2 h hP va_S.rf hl

theorem zdX3_idle_56 : (and (and (and (and (and (zk cX3_idle 56 (.iinc 2 1) 3) (zk cX3_idle 59 (.goto (-55)) 3)) (and (zk cX3_idle 4 (.iload_n 2) 1) (zk cX3_idle 5 (.aload_n 0) 1))) (and (and (zk cX3_idle 6 (.getfield 53) 3) (zk cX3_idle 9 (.if_icmp .ge 53) 3)) (and (zk cX3_idle 62 (.iload_n 1) 1) (zk cX3_idle 63 (.ireturn) 1)))) (and (and (and (zk cX3_idle 12 (.aload_n 0) 1) (zk cX3_idle 13 (.iload_n 2) 1)) (and (zk cX3_idle 14 (.invokevirtual 83) 3) (zk cX3_idle 17 (.ifCond .eq 39) 3))) (and (and (zk cX3_idle 20 (.aload_n 0) 1) (zk cX3_idle 21 (.getfield 27) 3)) (and (zk cX3_idle 24 (.iload_n 2) 1) (zk cX3_idle 25 (.iaload) 1))))) (and (and (and (and (zk cX3_idle 26 (.aload_n 0) 1) (zk cX3_idle 27 (.getfield 33) 3)) (and (zk cX3_idle 30 (.iload_n 2) 1) (zk cX3_idle 31 (.iaload) 1))) (and (and (zk cX3_idle 32 (.if_icmp .ne 24) 3) (zk cX3_idle 35 (.aload_n 0) 1)) (and (zk cX3_idle 36 (.getfield 30) 3) (zk cX3_idle 39 (.iload_n 2) 1)))) (and (and (and (zk cX3_idle 40 (.iaload) 1) (zk cX3_idle 41 (.aload_n 0) 1)) (and (zk cX3_idle 42 (.getfield 36) 3) (zk cX3_idle 45 (.iload_n 2) 1))) (and (and (zk cX3_idle 46 (.iaload) 1) (zk cX3_idle 47 (.if_icmp .ne 9) 3)) (and (zk cX3_idle 50 (.iload_n 1) 1) (zk cX3_idle 51 (.iconst 1) 1)))))) = true := by decide +kernel
theorem dX3_idle_56 : decode cX3_idle 56 = .ok (.iinc 2 1, 3) := zk_of (zk_l (zk_l (zk_l (zk_l (zk_l zdX3_idle_56)))))
theorem dX3_idle_59 : decode cX3_idle 59 = .ok (.goto (-55), 3) := zk_of (zk_r (zk_l (zk_l (zk_l (zk_l zdX3_idle_56)))))
theorem dX3_idle_4 : decode cX3_idle 4 = .ok (.iload_n 2, 1) := zk_of (zk_l (zk_r (zk_l (zk_l (zk_l zdX3_idle_56)))))
theorem dX3_idle_5 : decode cX3_idle 5 = .ok (.aload_n 0, 1) := zk_of (zk_r (zk_r (zk_l (zk_l (zk_l zdX3_idle_56)))))
theorem dX3_idle_6 : decode cX3_idle 6 = .ok (.getfield 53, 3) := zk_of (zk_l (zk_l (zk_r (zk_l (zk_l zdX3_idle_56)))))
theorem dX3_idle_9 : decode cX3_idle 9 = .ok (.if_icmp .ge 53, 3) := zk_of (zk_r (zk_l (zk_r (zk_l (zk_l zdX3_idle_56)))))
theorem dX3_idle_62 : decode cX3_idle 62 = .ok (.iload_n 1, 1) := zk_of (zk_l (zk_r (zk_r (zk_l (zk_l zdX3_idle_56)))))
theorem dX3_idle_63 : decode cX3_idle 63 = .ok (.ireturn, 1) := zk_of (zk_r (zk_r (zk_r (zk_l (zk_l zdX3_idle_56)))))
theorem dX3_idle_12 : decode cX3_idle 12 = .ok (.aload_n 0, 1) := zk_of (zk_l (zk_l (zk_l (zk_r (zk_l zdX3_idle_56)))))
theorem dX3_idle_13 : decode cX3_idle 13 = .ok (.iload_n 2, 1) := zk_of (zk_r (zk_l (zk_l (zk_r (zk_l zdX3_idle_56)))))
theorem dX3_idle_14 : decode cX3_idle 14 = .ok (.invokevirtual 83, 3) := zk_of (zk_l (zk_r (zk_l (zk_r (zk_l zdX3_idle_56)))))
theorem dX3_idle_17 : decode cX3_idle 17 = .ok (.ifCond .eq 39, 3) := zk_of (zk_r (zk_r (zk_l (zk_r (zk_l zdX3_idle_56)))))
theorem dX3_idle_20 : decode cX3_idle 20 = .ok (.aload_n 0, 1) := zk_of (zk_l (zk_l (zk_r (zk_r (zk_l zdX3_idle_56)))))
theorem dX3_idle_21 : decode cX3_idle 21 = .ok (.getfield 27, 3) := zk_of (zk_r (zk_l (zk_r (zk_r (zk_l zdX3_idle_56)))))
theorem dX3_idle_24 : decode cX3_idle 24 = .ok (.iload_n 2, 1) := zk_of (zk_l (zk_r (zk_r (zk_r (zk_l zdX3_idle_56)))))
theorem dX3_idle_25 : decode cX3_idle 25 = .ok (.iaload, 1) := zk_of (zk_r (zk_r (zk_r (zk_r (zk_l zdX3_idle_56)))))
theorem dX3_idle_26 : decode cX3_idle 26 = .ok (.aload_n 0, 1) := zk_of (zk_l (zk_l (zk_l (zk_l (zk_r zdX3_idle_56)))))
theorem dX3_idle_27 : decode cX3_idle 27 = .ok (.getfield 33, 3) := zk_of (zk_r (zk_l (zk_l (zk_l (zk_r zdX3_idle_56)))))
theorem dX3_idle_30 : decode cX3_idle 30 = .ok (.iload_n 2, 1) := zk_of (zk_l (zk_r (zk_l (zk_l (zk_r zdX3_idle_56)))))
theorem dX3_idle_31 : decode cX3_idle 31 = .ok (.iaload, 1) := zk_of (zk_r (zk_r (zk_l (zk_l (zk_r zdX3_idle_56)))))
theorem dX3_idle_32 : decode cX3_idle 32 = .ok (.if_icmp .ne 24, 3) := zk_of (zk_l (zk_l (zk_r (zk_l (zk_r zdX3_idle_56)))))
theorem dX3_idle_35 : decode cX3_idle 35 = .ok (.aload_n 0, 1) := zk_of (zk_r (zk_l (zk_r (zk_l (zk_r zdX3_idle_56)))))
theorem dX3_idle_36 : decode cX3_idle 36 = .ok (.getfield 30, 3) := zk_of (zk_l (zk_r (zk_r (zk_l (zk_r zdX3_idle_56)))))
theorem dX3_idle_39 : decode cX3_idle 39 = .ok (.iload_n 2, 1) := zk_of (zk_r (zk_r (zk_r (zk_l (zk_r zdX3_idle_56)))))
theorem dX3_idle_40 : decode cX3_idle 40 = .ok (.iaload, 1) := zk_of (zk_l (zk_l (zk_l (zk_r (zk_r zdX3_idle_56)))))
theorem dX3_idle_41 : decode cX3_idle 41 = .ok (.aload_n 0, 1) := zk_of (zk_r (zk_l (zk_l (zk_r (zk_r zdX3_idle_56)))))
theorem dX3_idle_42 : decode cX3_idle 42 = .ok (.getfield 36, 3) := zk_of (zk_l (zk_r (zk_l (zk_r (zk_r zdX3_idle_56)))))
theorem dX3_idle_45 : decode cX3_idle 45 = .ok (.iload_n 2, 1) := zk_of (zk_r (zk_r (zk_l (zk_r (zk_r zdX3_idle_56)))))
theorem dX3_idle_46 : decode cX3_idle 46 = .ok (.iaload, 1) := zk_of (zk_l (zk_l (zk_r (zk_r (zk_r zdX3_idle_56)))))
theorem dX3_idle_47 : decode cX3_idle 47 = .ok (.if_icmp .ne 9, 3) := zk_of (zk_r (zk_l (zk_r (zk_r (zk_r zdX3_idle_56)))))
theorem dX3_idle_50 : decode cX3_idle 50 = .ok (.iload_n 1, 1) := zk_of (zk_l (zk_r (zk_r (zk_r (zk_r zdX3_idle_56)))))
theorem dX3_idle_51 : decode cX3_idle 51 = .ok (.iconst 1, 1) := zk_of (zk_r (zk_r (zk_r (zk_r (zk_r zdX3_idle_56)))))
set_option maxRecDepth 20000 in
theorem ggX3_idle_X3_isDone : GoodIn wsX3_idle wsX3_isDone := ggi (fun w h => List.mem_cons_of_mem _ (List.mem_append_left _ (List.mem_append_right _ h))) gs_X3_isDone
set_option maxRecDepth 20000 in
theorem gX3_idle_X3_isDone : GoodIn wsX3_idle (wsV RX3 83 RX3 yX3_isDone wsX3_isDone) := goodIn_app (goodIn_of _ (by decide +kernel)) ggX3_idle_X3_isDone
theorem zdX3_idle_52 : (and (and (and (zk cX3_idle 52 (.iload_n 2) 1) (zk cX3_idle 53 (.ishl) 1)) (and (zk cX3_idle 54 (.ior) 1) (zk cX3_idle 55 (.istore_n 1) 1))) (and (and (zk cX3_idle 0 (.iconst 0) 1) (zk cX3_idle 1 (.istore_n 1) 1)) (and (zk cX3_idle 2 (.iconst 0) 1) (zk cX3_idle 3 (.istore_n 2) 1)))) = true := by decide +kernel
theorem dX3_idle_52 : decode cX3_idle 52 = .ok (.iload_n 2, 1) := zk_of (zk_l (zk_l (zk_l zdX3_idle_52)))
theorem dX3_idle_53 : decode cX3_idle 53 = .ok (.ishl, 1) := zk_of (zk_r (zk_l (zk_l zdX3_idle_52)))
theorem dX3_idle_54 : decode cX3_idle 54 = .ok (.ior, 1) := zk_of (zk_l (zk_r (zk_l zdX3_idle_52)))
theorem dX3_idle_55 : decode cX3_idle 55 = .ok (.istore_n 1, 1) := zk_of (zk_r (zk_r (zk_l zdX3_idle_52)))
theorem dX3_idle_0 : decode cX3_idle 0 = .ok (.iconst 0, 1) := zk_of (zk_l (zk_l (zk_r zdX3_idle_52)))
theorem dX3_idle_1 : decode cX3_idle 1 = .ok (.istore_n 1, 1) := zk_of (zk_r (zk_l (zk_r zdX3_idle_52)))
theorem dX3_idle_2 : decode cX3_idle 2 = .ok (.iconst 0, 1) := zk_of (zk_l (zk_r (zk_r zdX3_idle_52)))
theorem dX3_idle_3 : decode cX3_idle 3 = .ok (.istore_n 2, 1) := zk_of (zk_r (zk_r (zk_r zdX3_idle_52)))
/-- HissHorn$Looks.idle()I of cell 10 -/
def rmX3_idle_10 : Room := { frames := 1, cells := 0, slots := 0, locals := 21 }
theorem hX3_idle_10_X3 : ∀ w ∈ u_ws RX3 TX3 19, w ∈ wsX3_idle := fun w h => (List.mem_cons_of_mem _ (List.mem_append_right _ h))
theorem mX3_idle_10_1 : Cond.fieldLink RX3 53 "HissHorn$Looks" "size" "I" ∈ wsX3_idle := (List.mem_cons_of_mem _ (List.mem_append_left _ (List.mem_append_left _ (List.mem_of_getElem? (i := 4) rfl))))
def GX3_idle_10_56 (k4 : Int32 → Int32 → SX → Option (Int32 × SX)) (z1 : Int32) (z2 : Int32) (u : SX) : Option (Int32 × SX) := (k4 z1 (z2 + 1) u)
theorem mX3_idle_10_2 : Cond.fieldLink RX3 27 "HissHorn$Looks" "aheadFrom" "[I" ∈ wsX3_idle := (List.mem_cons_of_mem _ (List.mem_append_left _ (List.mem_append_left _ (List.mem_of_getElem? (i := 5) rfl))))
theorem mX3_idle_10_3 : Cond.fieldLink RX3 33 "HissHorn$Looks" "behindFrom" "[I" ∈ wsX3_idle := (List.mem_cons_of_mem _ (List.mem_append_left _ (List.mem_append_left _ (List.mem_of_getElem? (i := 6) rfl))))
theorem mX3_idle_10_4 : Cond.fieldLink RX3 30 "HissHorn$Looks" "aheadTo" "[I" ∈ wsX3_idle := (List.mem_cons_of_mem _ (List.mem_append_left _ (List.mem_append_left _ (List.mem_of_getElem? (i := 7) rfl))))
theorem mX3_idle_10_5 : Cond.fieldLink RX3 36 "HissHorn$Looks" "behindTo" "[I" ∈ wsX3_idle := (List.mem_cons_of_mem _ (List.mem_append_left _ (List.mem_append_left _ (List.mem_of_getElem? (i := 8) rfl))))
def LX3_idle_10_4  : Nat → Int32 → Int32 → SX → Option (Int32 × SX)
  | 0, _, _, _ => none
  | n + 1, z1, z2, u => (if (u.1 29) ≤ z2 then (some (z1, u)) else ((fX3_isDone_10 z2 u).bind fun q => match q with | (r1, u2) => (if r1 = 0 then (GX3_idle_10_56 (LX3_idle_10_4 n) z1 z2 u2) else (gd (inb z2 10) (gd (inb z2 10) (if (u2.2.1 53 z2.toNatClampNeg) = (u2.2.1 55 z2.toNatClampNeg) then (gd (inb z2 10) (gd (inb z2 10) (if (u2.2.1 54 z2.toNatClampNeg) = (u2.2.1 56 z2.toNatClampNeg) then (lt (z1 ||| (1 <<< (z2 &&& 31))) fun v8 => (GX3_idle_10_56 (LX3_idle_10_4 n) v8 z2 u2)) else (GX3_idle_10_56 (LX3_idle_10_4 n) z1 z2 u2)))) else (GX3_idle_10_56 (LX3_idle_10_4 n) z1 z2 u2)))))))
def fX3_idle_10  (u : SX) : Option (Int32 × SX) := (LX3_idle_10_4  5000 0 0 u)
set_option maxHeartbeats 4000000 in
set_option maxRecDepth 100000 in
theorem wGX3_idle_10_56 {p : Program} {l : Launch} {e : Env} {s : State} {m : MethodId} {args : Array Value} {below : List Frame} {meth : Method} {c : Code} {D : va_G} {cy : Nat → ClassId} {ad st : Nat → Nat} (C : Cx RX3 cX3_idle 3 (some .int) wsX3_idle p s m args meth c) (hK : Ky D [(cy 0, .int), (cy 1, .long), (cy 2, .boolean), (cy 3, .byte), (cy 4, .object "HissHorn$Text")] st s) (hJ : JX ad st) {r : Int32} {u' : SX} {k4 : Int32 → Int32 → SX → Option (Int32 × SX)} (hk4 : ∀ (z1 : Int32) (z2 : Int32) (u : SX) (H : Heap) (locs : List Loc) (ls : Array Slot), k4 z1 z2 u = some (r, u') → va_P D vwCl (VX cy ad st u) H → va_S (Ax (AX ad) s.heap.size) s.heap H locs → lv_has ls 3 [(0, .ref (ad 10)), (1, .int z1), (2, .int z2)] → W p l e rmX3_idle_10 s m args below meth c H locs 0 0 (MQ below (Qi D (VX cy ad st) (AX ad) s.heap.size r u') args s 0 0 (Ax (AX ad) s.heap.size)) (F0 m 4 ls [])) (z1 : Int32) (z2 : Int32) (u : SX) (H : Heap) (locs : List Loc) (ls : Array Slot) (h : GX3_idle_10_56 k4 z1 z2 u = some (r, u')) (hP : va_P D vwCl (VX cy ad st u) H) (hS : va_S (Ax (AX ad) s.heap.size) s.heap H locs) (hl : lv_has ls 3 [(0, .ref (ad 10)), (1, .int z1), (2, .int z2)]) : W p l e rmX3_idle_10 s m args below meth c H locs 0 0 (MQ below (Qi D (VX cy ad st) (AX ad) s.heap.size r u') args s 0 0 (Ax (AX ad) s.heap.size)) (F0 m 56 ls []) := by
  unfold GX3_idle_10_56 at h
  refine lv_iinc (v := z2 + 1) (lv' := [(2, .int (z2 + 1)), (0, .ref (ad 10)), (1, .int z1)]) C.1 C.2.1 dX3_idle_56 hl (k := 2) rfl rfl (by decide) rfl (fun ls hl => ?_)
  replace hl := lv_sub (l' := [(0, .ref (ad 10)), (1, .int z1), (2, .int (z2 + 1))]) hl [1, 2, 0] rfl
  refine lv_goto (tgt := 4) C.1 C.2.1 dX3_idle_59 (by decide) ?_
  exact hk4 _ _ _ _ _ _ h hP hS hl
set_option maxHeartbeats 4000000 in
set_option maxRecDepth 100000 in
theorem wLX3_idle_10_4 {p : Program} {l : Launch} {e : Env} {s : State} {m : MethodId} {args : Array Value} {below : List Frame} {meth : Method} {c : Code} {D : va_G} {cy : Nat → ClassId} {ad st : Nat → Nat} (C : Cx RX3 cX3_idle 3 (some .int) wsX3_idle p s m args meth c) (hK : Ky D [(cy 0, .int), (cy 1, .long), (cy 2, .boolean), (cy 3, .byte), (cy 4, .object "HissHorn$Text")] st s) (hJ : JX ad st) {r : Int32} {u' : SX}   : ∀ (n : Nat) (z1 : Int32) (z2 : Int32) (u : SX) (H : Heap) (locs : List Loc) (ls : Array Slot), LX3_idle_10_4  n z1 z2 u = some (r, u') → va_P D vwCl (VX cy ad st u) H → va_S (Ax (AX ad) s.heap.size) s.heap H locs → lv_has ls 3 [(0, .ref (ad 10)), (1, .int z1), (2, .int z2)] → W p l e rmX3_idle_10 s m args below meth c H locs 0 0 (MQ below (Qi D (VX cy ad st) (AX ad) s.heap.size r u') args s 0 0 (Ax (AX ad) s.heap.size)) (F0 m 4 ls []) := by
  intro n
  induction n with
  | zero =>
    intro z1 z2 u H locs ls h
    exact absurd h (by intro q; cases q)
  | succ n ih =>
    intro z1 z2 u H locs ls h hP hS hl
    rw [LX3_idle_10_4] at h
    refine lv_iload_n C.1 C.2.1 dX3_idle_4 rfl (lv_at hl 2 rfl) ?_
    refine lv_aload_n C.1 C.2.1 dX3_idle_5 rfl (lv_at hl 0 rfl) ?_
    refine gX_10_size C hX3_idle_10_X3 hK hP mX3_idle_10_1 dX3_idle_6 ?_
    refine lv_icmp_ge (tgt := 62) C.1 C.2.1 dX3_idle_9 (by decide) (fun c9 => ?_) (fun c9 => ?_)
    · rw [if_pos c9] at h
      refine lv_iload_n C.1 C.2.1 dX3_idle_62 rfl (lv_at hl 1 rfl) ?_
      cases h
      exact rt_i C hP hS dX3_idle_63
    · rw [if_neg c9] at h
      refine lv_aload_n C.1 C.2.1 dX3_idle_12 rfl (lv_at hl 0 rfl) ?_
      refine lv_iload_n C.1 C.2.1 dX3_idle_13 rfl (lv_at hl 2 rfl) ?_
      obtain ⟨⟨r1, u2⟩, hc3, h⟩ := bd_some h
      try dsimp only at h
      refine cg_i (As := [.int z2]) (rest := []) (AX_ge hJ) C hK hP hS (metX3_isDone_10 l D cy ad st hJ _ z2 hc3) (cwV 1 C.2.2.2.2.2.1 gX3_idle_X3_isDone rfl rfl rfl (by decide +kernel) ⟨(Nat.le_of_ble_eq_true rfl), (Nat.le_of_ble_eq_true rfl)⟩) 10 3 rfl rfl rfl hl.1 rfl (Nat.le_of_ble_eq_true rfl) dX3_idle_14 ⟨Nat.zero_le _, Nat.zero_le _⟩ (fun H locs hP hS => ?_)
      refine lv_if_eq (tgt := 56) C.1 C.2.1 dX3_idle_17 (by decide) (fun c17 => ?_) (fun c17 => ?_)
      · rw [if_pos c17] at h
        exact wGX3_idle_10_56 C hK hJ ih _ _ _ _ _ _ h hP hS hl
      · rw [if_neg c17] at h
        refine lv_aload_n C.1 C.2.1 dX3_idle_20 rfl (lv_at hl 0 rfl) ?_
        refine gX_10_aheadFrom C hX3_idle_10_X3 hK hP mX3_idle_10_2 dX3_idle_21 ?_
        refine lv_iload_n C.1 C.2.1 dX3_idle_24 rfl (lv_at hl 2 rfl) ?_
        obtain ⟨hg4, h⟩ := gd_some h
        refine lX_53 C hK hP hg4 dX3_idle_25 ?_
        refine lv_aload_n C.1 C.2.1 dX3_idle_26 rfl (lv_at hl 0 rfl) ?_
        refine gX_10_behindFrom C hX3_idle_10_X3 hK hP mX3_idle_10_3 dX3_idle_27 ?_
        refine lv_iload_n C.1 C.2.1 dX3_idle_30 rfl (lv_at hl 2 rfl) ?_
        obtain ⟨hg5, h⟩ := gd_some h
        refine lX_55 C hK hP hg5 dX3_idle_31 ?_
        refine lv_icmp_ne (tgt := 56) C.1 C.2.1 dX3_idle_32 (by decide) (fun c32 => ?_) (fun c32 => ?_)
        · rw [if_neg c32] at h
          exact wGX3_idle_10_56 C hK hJ ih _ _ _ _ _ _ h hP hS hl
        · rw [if_pos c32] at h
          refine lv_aload_n C.1 C.2.1 dX3_idle_35 rfl (lv_at hl 0 rfl) ?_
          refine gX_10_aheadTo C hX3_idle_10_X3 hK hP mX3_idle_10_4 dX3_idle_36 ?_
          refine lv_iload_n C.1 C.2.1 dX3_idle_39 rfl (lv_at hl 2 rfl) ?_
          obtain ⟨hg6, h⟩ := gd_some h
          refine lX_54 C hK hP hg6 dX3_idle_40 ?_
          refine lv_aload_n C.1 C.2.1 dX3_idle_41 rfl (lv_at hl 0 rfl) ?_
          refine gX_10_behindTo C hX3_idle_10_X3 hK hP mX3_idle_10_5 dX3_idle_42 ?_
          refine lv_iload_n C.1 C.2.1 dX3_idle_45 rfl (lv_at hl 2 rfl) ?_
          obtain ⟨hg7, h⟩ := gd_some h
          refine lX_56 C hK hP hg7 dX3_idle_46 ?_
          refine lv_icmp_ne (tgt := 56) C.1 C.2.1 dX3_idle_47 (by decide) (fun c47 => ?_) (fun c47 => ?_)
          · rw [if_neg c47] at h
            exact wGX3_idle_10_56 C hK hJ ih _ _ _ _ _ _ h hP hS hl
          · rw [if_pos c47] at h
            refine lv_iload_n C.1 C.2.1 dX3_idle_50 rfl (lv_at hl 1 rfl) ?_
            refine lv_iconst (v := 1) C.1 C.2.1 dX3_idle_51 (by decide) ?_
            refine lv_iload_n C.1 C.2.1 dX3_idle_52 rfl (lv_at hl 2 rfl) ?_
            refine lv_ishl C.1 C.2.1 dX3_idle_53 ?_
            refine lv_ior C.1 C.2.1 dX3_idle_54 ?_
            refine lv_topi (fun v8 hv9 => ?_)
            replace h := lt_e hv9 h
            try dsimp only at h
            refine lv_istore_n (lv' := [(1, .int v8), (0, .ref (ad 10)), (2, .int z2)]) C.1 C.2.1 dX3_idle_55 rfl hl (by decide) rfl (fun ls hl => ?_)
            replace hl := lv_sub (l' := [(0, .ref (ad 10)), (1, .int v8), (2, .int z2)]) hl [1, 0, 2] rfl
            exact wGX3_idle_10_56 C hK hJ ih _ _ _ _ _ _ h hP hS hl
set_option maxHeartbeats 4000000 in
set_option maxRecDepth 100000 in
theorem wX3_idle_10 {p : Program} {l : Launch} {e : Env} {s : State} {m : MethodId} {args : Array Value} {below : List Frame} {meth : Method} {c : Code} {D : va_G} {cy : Nat → ClassId} {ad st : Nat → Nat} (C : Cx RX3 cX3_idle 3 (some .int) wsX3_idle p s m args meth c) (hK : Ky D [(cy 0, .int), (cy 1, .long), (cy 2, .boolean), (cy 3, .byte), (cy 4, .object "HissHorn$Text")] st s) (hJ : JX ad st)  {u : SX} {r : Int32} {u' : SX} {H : Heap} {locs : List Loc} {ls : Array Slot} (h : fX3_idle_10  u = some (r, u')) (hP : va_P D vwCl (VX cy ad st u) H) (hS : va_S (Ax (AX ad) s.heap.size) s.heap H locs) (hl : lv_has ls 3 [(0, .ref (ad 10))]) : W p l e rmX3_idle_10 s m args below meth c H locs 0 0 (MQ below (Qi D (VX cy ad st) (AX ad) s.heap.size r u') args s 0 0 (Ax (AX ad) s.heap.size)) (F0 m 0 ls []) := by
  unfold fX3_idle_10 at h
  refine lv_iconst (v := 0) C.1 C.2.1 dX3_idle_0 (by decide) ?_
  refine lv_istore_n (lv' := [(1, .int 0), (0, .ref (ad 10))]) C.1 C.2.1 dX3_idle_1 rfl hl (by decide) rfl (fun ls hl => ?_)
  replace hl := lv_sub (l' := [(0, .ref (ad 10)), (1, .int 0)]) hl [1, 0] rfl
  refine lv_iconst (v := 0) C.1 C.2.1 dX3_idle_2 (by decide) ?_
  refine lv_istore_n (lv' := [(2, .int 0), (0, .ref (ad 10)), (1, .int 0)]) C.1 C.2.1 dX3_idle_3 rfl hl (by decide) rfl (fun ls hl => ?_)
  replace hl := lv_sub (l' := [(0, .ref (ad 10)), (1, .int 0), (2, .int 0)]) hl [1, 2, 0] rfl
  exact wLX3_idle_10_4 C hK hJ  5000 _ _ _ _ _ _ h hP hS hl
theorem metX3_idle_10 (l : Launch) (D : va_G) (cy : Nat → ClassId) (ad st : Nat → Nat) (hJ : JX ad st) (sz : Nat)  {u : SX} {r : Int32} {u' : SX} (h : fX3_idle_10  u = some (r, u')) : Met l yX3_idle wsX3_idle rmX3_idle_10 (va_Pc [.ref (ad 10)] (Px D [(cy 0, .int), (cy 1, .long), (cy 2, .boolean), (cy 3, .byte), (cy 4, .object "HissHorn$Text")] st (VX cy ad st) sz u)) (Qi D (VX cy ad st) (AX ad) sz r u') 0 0 (Ax (AX ad) sz) := by
  refine Met.ofW (cc := cX3_idle) (maxL := 3) (ret := (some .int)) (by decide) rfl ?_
  intro p e s m args below meth c s₁ B hml hv
  obtain ⟨rfl, hsz, hP, hK⟩ := hv
  subst hsz
  have C : Cx RX3 cX3_idle 3 (some .int) wsX3_idle p s m _ meth c := ⟨B.exec, B.bytes, hml, B.returns, findClass_of_methodNamed B.named, atoms_spec (ws := wsX3_idle) B.pre, B.notSynchronized⟩
  have hl := lv_entry ([.ref (ad 10)]) (n := 3) (Nat.le_of_ble_eq_true rfl)
  rw [lg_entry_eq]
  exact wX3_idle_10 C hK hJ h hP va_S.rf hl

theorem zdX11_nothing_0 : (and (and (zk cX11_nothing 0 (.aload_n 0) 1) (zk cX11_nothing 1 (.getfield 83) 3)) (and (zk cX11_nothing 4 (.invokevirtual 276) 3) (zk cX11_nothing 7 (.ireturn) 1))) = true := by decide +kernel
theorem dX11_nothing_0 : decode cX11_nothing 0 = .ok (.aload_n 0, 1) := zk_of (zk_l (zk_l zdX11_nothing_0))
theorem dX11_nothing_1 : decode cX11_nothing 1 = .ok (.getfield 83, 3) := zk_of (zk_r (zk_l zdX11_nothing_0))
theorem dX11_nothing_4 : decode cX11_nothing 4 = .ok (.invokevirtual 276, 3) := zk_of (zk_l (zk_r zdX11_nothing_0))
theorem dX11_nothing_7 : decode cX11_nothing 7 = .ok (.ireturn, 1) := zk_of (zk_r (zk_r zdX11_nothing_0))
set_option maxRecDepth 20000 in
theorem ggX11_nothing_X3_idle : GoodIn wsX11_nothing wsX3_idle := ggi (fun w h => List.mem_cons_of_mem _ (List.mem_append_left _ (List.mem_append_left _ (List.mem_append_right _ h)))) gs_X3_idle
set_option maxRecDepth 20000 in
theorem gX11_nothing_X3_idle : GoodIn wsX11_nothing (wsV RX11 276 RX3 yX3_idle wsX3_idle) := goodIn_app (goodIn_of _ (by decide +kernel)) ggX11_nothing_X3_idle
/-- HissHorn.nothing()I of cell 0 -/
def rmX11_nothing_0 : Room := { frames := 2, cells := 0, slots := 0, locals := 43 }
theorem hX11_nothing_0_X11 : ∀ w ∈ u_ws RX11 TX11 13, w ∈ wsX11_nothing := fun w h => (List.mem_cons_of_mem _ (List.mem_append_left _ (List.mem_append_right _ h)))
theorem mX11_nothing_0_1 : Cond.fieldLink RX11 83 "HissHorn" "looks" "LHissHorn$Looks;" ∈ wsX11_nothing := (List.mem_cons_of_mem _ (List.mem_append_left _ (List.mem_append_left _ (List.mem_append_left _ (List.mem_of_getElem? (i := 4) rfl)))))
def fX11_nothing_0  (u : SX) : Option (Int32 × SX) := ((fX3_idle_10  u).bind fun q => match q with | (r1, u2) => (some (r1, u2)))
set_option maxHeartbeats 4000000 in
set_option maxRecDepth 100000 in
theorem wX11_nothing_0 {p : Program} {l : Launch} {e : Env} {s : State} {m : MethodId} {args : Array Value} {below : List Frame} {meth : Method} {c : Code} {D : va_G} {cy : Nat → ClassId} {ad st : Nat → Nat} (C : Cx RX11 cX11_nothing 1 (some .int) wsX11_nothing p s m args meth c) (hK : Ky D [(cy 0, .int), (cy 1, .long), (cy 2, .boolean), (cy 3, .byte), (cy 4, .object "HissHorn$Text")] st s) (hJ : JX ad st)  {u : SX} {r : Int32} {u' : SX} {H : Heap} {locs : List Loc} {ls : Array Slot} (h : fX11_nothing_0  u = some (r, u')) (hP : va_P D vwCl (VX cy ad st u) H) (hS : va_S (Ax (AX ad) s.heap.size) s.heap H locs) (hl : lv_has ls 1 [(0, .ref (ad 0))]) : W p l e rmX11_nothing_0 s m args below meth c H locs 0 0 (MQ below (Qi D (VX cy ad st) (AX ad) s.heap.size r u') args s 0 0 (Ax (AX ad) s.heap.size)) (F0 m 0 ls []) := by
  unfold fX11_nothing_0 at h
  refine lv_aload_n C.1 C.2.1 dX11_nothing_0 rfl (lv_at hl 0 rfl) ?_
  refine gX_0_looks C hX11_nothing_0_X11 hK hP mX11_nothing_0_1 dX11_nothing_1 ?_
  obtain ⟨⟨r1, u2⟩, hc3, h⟩ := bd_some h
  try dsimp only at h
  refine cg_i (As := []) (rest := []) (AX_ge hJ) C hK hP hS (metX3_idle_10 l D cy ad st hJ _  hc3) (cwV 0 C.2.2.2.2.2.1 gX11_nothing_X3_idle rfl rfl rfl (by decide +kernel) ⟨(Nat.le_of_ble_eq_true rfl), (Nat.le_of_ble_eq_true rfl)⟩) 10 3 rfl rfl rfl hl.1 rfl (Nat.le_of_ble_eq_true rfl) dX11_nothing_4 ⟨Nat.zero_le _, Nat.zero_le _⟩ (fun H locs hP hS => ?_)
  cases h
  exact rt_i C hP hS dX11_nothing_7
theorem metX11_nothing_0 (l : Launch) (D : va_G) (cy : Nat → ClassId) (ad st : Nat → Nat) (hJ : JX ad st) (sz : Nat)  {u : SX} {r : Int32} {u' : SX} (h : fX11_nothing_0  u = some (r, u')) : Met l yX11_nothing wsX11_nothing rmX11_nothing_0 (va_Pc [.ref (ad 0)] (Px D [(cy 0, .int), (cy 1, .long), (cy 2, .boolean), (cy 3, .byte), (cy 4, .object "HissHorn$Text")] st (VX cy ad st) sz u)) (Qi D (VX cy ad st) (AX ad) sz r u') 0 0 (Ax (AX ad) sz) := by
  refine Met.ofW (cc := cX11_nothing) (maxL := 1) (ret := (some .int)) (by decide) rfl ?_
  intro p e s m args below meth c s₁ B hml hv
  obtain ⟨rfl, hsz, hP, hK⟩ := hv
  subst hsz
  have C : Cx RX11 cX11_nothing 1 (some .int) wsX11_nothing p s m _ meth c := ⟨B.exec, B.bytes, hml, B.returns, findClass_of_methodNamed B.named, atoms_spec (ws := wsX11_nothing) B.pre, B.notSynchronized⟩
  have hl := lv_entry ([.ref (ad 0)]) (n := 1) (Nat.le_of_ble_eq_true rfl)
  rw [lg_entry_eq]
  exact wX11_nothing_0 C hK hJ h hP va_S.rf hl

theorem zdX3_rowSpread_0 : (and (and (and (and (zk cX3_rowSpread 0 (.aload_n 0) 1) (zk cX3_rowSpread 1 (.getfield 39) 3)) (and (zk cX3_rowSpread 4 (.iload_n 1) 1) (zk cX3_rowSpread 5 (.iaload) 1))) (and (and (zk cX3_rowSpread 6 (.aload_n 0) 1) (zk cX3_rowSpread 7 (.getfield 42) 3)) (and (zk cX3_rowSpread 10 (.iload_n 1) 1) (zk cX3_rowSpread 11 (.iaload) 1)))) (and (and (and (zk cX3_rowSpread 12 (.aload_n 0) 1) (zk cX3_rowSpread 13 (.getfield 45) 3)) (and (zk cX3_rowSpread 16 (.aload_n 0) 1) (zk cX3_rowSpread 17 (.getfield 87) 3))) (and (and (zk cX3_rowSpread 20 (.iload_n 1) 1) (zk cX3_rowSpread 21 (.invokevirtual 73) 3)) (and (zk cX3_rowSpread 24 (.invokestatic 79) 3) (zk cX3_rowSpread 27 (.ireturn) 1))))) = true := by decide +kernel
theorem dX3_rowSpread_0 : decode cX3_rowSpread 0 = .ok (.aload_n 0, 1) := zk_of (zk_l (zk_l (zk_l (zk_l zdX3_rowSpread_0))))
theorem dX3_rowSpread_1 : decode cX3_rowSpread 1 = .ok (.getfield 39, 3) := zk_of (zk_r (zk_l (zk_l (zk_l zdX3_rowSpread_0))))
theorem dX3_rowSpread_4 : decode cX3_rowSpread 4 = .ok (.iload_n 1, 1) := zk_of (zk_l (zk_r (zk_l (zk_l zdX3_rowSpread_0))))
theorem dX3_rowSpread_5 : decode cX3_rowSpread 5 = .ok (.iaload, 1) := zk_of (zk_r (zk_r (zk_l (zk_l zdX3_rowSpread_0))))
theorem dX3_rowSpread_6 : decode cX3_rowSpread 6 = .ok (.aload_n 0, 1) := zk_of (zk_l (zk_l (zk_r (zk_l zdX3_rowSpread_0))))
theorem dX3_rowSpread_7 : decode cX3_rowSpread 7 = .ok (.getfield 42, 3) := zk_of (zk_r (zk_l (zk_r (zk_l zdX3_rowSpread_0))))
theorem dX3_rowSpread_10 : decode cX3_rowSpread 10 = .ok (.iload_n 1, 1) := zk_of (zk_l (zk_r (zk_r (zk_l zdX3_rowSpread_0))))
theorem dX3_rowSpread_11 : decode cX3_rowSpread 11 = .ok (.iaload, 1) := zk_of (zk_r (zk_r (zk_r (zk_l zdX3_rowSpread_0))))
theorem dX3_rowSpread_12 : decode cX3_rowSpread 12 = .ok (.aload_n 0, 1) := zk_of (zk_l (zk_l (zk_l (zk_r zdX3_rowSpread_0))))
theorem dX3_rowSpread_13 : decode cX3_rowSpread 13 = .ok (.getfield 45, 3) := zk_of (zk_r (zk_l (zk_l (zk_r zdX3_rowSpread_0))))
theorem dX3_rowSpread_16 : decode cX3_rowSpread 16 = .ok (.aload_n 0, 1) := zk_of (zk_l (zk_r (zk_l (zk_r zdX3_rowSpread_0))))
theorem dX3_rowSpread_17 : decode cX3_rowSpread 17 = .ok (.getfield 87, 3) := zk_of (zk_r (zk_r (zk_l (zk_r zdX3_rowSpread_0))))
theorem dX3_rowSpread_20 : decode cX3_rowSpread 20 = .ok (.iload_n 1, 1) := zk_of (zk_l (zk_l (zk_r (zk_r zdX3_rowSpread_0))))
theorem dX3_rowSpread_21 : decode cX3_rowSpread 21 = .ok (.invokevirtual 73, 3) := zk_of (zk_r (zk_l (zk_r (zk_r zdX3_rowSpread_0))))
theorem dX3_rowSpread_24 : decode cX3_rowSpread 24 = .ok (.invokestatic 79, 3) := zk_of (zk_l (zk_r (zk_r (zk_r zdX3_rowSpread_0))))
theorem dX3_rowSpread_27 : decode cX3_rowSpread 27 = .ok (.ireturn, 1) := zk_of (zk_r (zk_r (zk_r (zk_r zdX3_rowSpread_0))))
set_option maxRecDepth 20000 in
theorem ggX3_rowSpread_X7_leanOf : GoodIn wsX3_rowSpread wsX7_leanOf := goodIn_r _ [9, 10, 11, 12, 13, 14, 15, 16, 17, 18, 19, 20, 21, 22, 23, 24, 25, 26, 27, 28, 29, 30, 31, 32, 33, 34, 35, 36, 37, 38, 39, 40, 41, 42, 43, 44, 45, 46, 47, 48, 49, 50, 51, 52, 53, 54, 83, 84, 85, 86, 87, 88, 89, 90, 91, 92, 93, 94, 95, 96, 97, 98, 99, 100, 101, 102, 103, 104, 105, 106, 107, 108, 109, 110, 111, 112, 113, 114, 115, 116, 117] rfl (by decide +kernel)
set_option maxRecDepth 20000 in
theorem gX3_rowSpread_X7_leanOf : GoodIn wsX3_rowSpread (wsV RX3 73 RX7 yX7_leanOf wsX7_leanOf) := goodIn_app (goodIn_of _ (by decide +kernel)) ggX3_rowSpread_X7_leanOf
set_option maxRecDepth 20000 in
theorem ggX3_rowSpread_X11_spread : GoodIn wsX3_rowSpread wsX11_spread := goodIn_r _ [57, 58, 59, 50, 60, 61, 62, 56, 63] rfl (by decide +kernel)
set_option maxRecDepth 20000 in
theorem gX3_rowSpread_X11_spread_n79 : GoodIn wsX3_rowSpread (wsX11_spread) := ggX3_rowSpread_X11_spread
/-- HissHorn$Looks.rowSpread(I)I of cell 10 -/
def rmX3_rowSpread_10 : Room := { frames := 5, cells := 0, slots := 0, locals := 111 }
theorem hX3_rowSpread_10_X3 : ∀ w ∈ u_ws RX3 TX3 19, w ∈ wsX3_rowSpread := fun w h => (List.mem_cons_of_mem _ (List.mem_append_left _ (List.mem_append_left _ (List.mem_append_left _ (List.mem_append_left _ (List.mem_append_right _ h))))))
theorem mX3_rowSpread_10_1 : Cond.fieldLink RX3 39 "HissHorn$Looks" "rowLow" "[I" ∈ wsX3_rowSpread := (List.mem_cons_of_mem _ (List.mem_append_left _ (List.mem_append_left _ (List.mem_append_left _ (List.mem_append_left _ (List.mem_append_left _ (List.mem_append_left _ (List.mem_of_getElem? (i := 0) rfl))))))))
theorem mX3_rowSpread_10_2 : Cond.fieldLink RX3 42 "HissHorn$Looks" "rowHigh" "[I" ∈ wsX3_rowSpread := (List.mem_cons_of_mem _ (List.mem_append_left _ (List.mem_append_left _ (List.mem_append_left _ (List.mem_append_left _ (List.mem_append_left _ (List.mem_append_left _ (List.mem_of_getElem? (i := 1) rfl))))))))
theorem mX3_rowSpread_10_3 : Cond.fieldLink RX3 45 "HissHorn$Looks" "readings" "LHissHorn$Readings;" ∈ wsX3_rowSpread := (List.mem_cons_of_mem _ (List.mem_append_left _ (List.mem_append_left _ (List.mem_append_left _ (List.mem_append_left _ (List.mem_append_left _ (List.mem_append_left _ (List.mem_of_getElem? (i := 2) rfl))))))))
theorem mX3_rowSpread_10_4 : Cond.fieldLink RX3 87 "HissHorn$Looks" "rowReading" "I" ∈ wsX3_rowSpread := (List.mem_cons_of_mem _ (List.mem_append_left _ (List.mem_append_left _ (List.mem_append_left _ (List.mem_append_left _ (List.mem_append_left _ (List.mem_append_left _ (List.mem_of_getElem? (i := 3) rfl))))))))
theorem mX3_rowSpread_10_5 : Cond.initialized RX11 ∈ wsX3_rowSpread := (List.mem_cons_of_mem _ (List.mem_append_left _ (List.mem_append_left _ (List.mem_append_left _ (List.mem_append_left _ (List.mem_append_left _ (List.mem_append_right _ (List.mem_append_right _ (List.mem_of_getElem? (i := 7) rfl)))))))))
theorem mX3_rowSpread_10_6 : Cond.static yX11_spread ∈ wsX3_rowSpread := (List.mem_cons_of_mem _ (List.mem_append_left _ (List.mem_append_left _ (List.mem_append_left _ (List.mem_append_left _ (List.mem_append_left _ (List.mem_append_right _ (List.mem_append_right _ (List.mem_of_getElem? (i := 6) rfl)))))))))
def fX3_rowSpread_10 (x1 : Int32) (u : SX) : Option (Int32 × SX) := (gd (inb x1 12) (gd (inb x1 12) ((fX7_leanOf_7 (u.1 32) x1 u).bind fun q => match q with | (r3, u4) => ((fX11_spread (u.2.1 57 x1.toNatClampNeg) (u.2.1 58 x1.toNatClampNeg) r3).bind fun r6 => (some (r6, u4))))))
set_option maxHeartbeats 4000000 in
set_option maxRecDepth 100000 in
theorem wX3_rowSpread_10 {p : Program} {l : Launch} {e : Env} {s : State} {m : MethodId} {args : Array Value} {below : List Frame} {meth : Method} {c : Code} {D : va_G} {cy : Nat → ClassId} {ad st : Nat → Nat} (C : Cx RX3 cX3_rowSpread 2 (some .int) wsX3_rowSpread p s m args meth c) (hK : Ky D [(cy 0, .int), (cy 1, .long), (cy 2, .boolean), (cy 3, .byte), (cy 4, .object "HissHorn$Text")] st s) (hJ : JX ad st) (x1 : Int32) {u : SX} {r : Int32} {u' : SX} {H : Heap} {locs : List Loc} {ls : Array Slot} (h : fX3_rowSpread_10 x1 u = some (r, u')) (hP : va_P D vwCl (VX cy ad st u) H) (hS : va_S (Ax (AX ad) s.heap.size) s.heap H locs) (hl : lv_has ls 2 [(0, .ref (ad 10)), (1, .int x1)]) : W p l e rmX3_rowSpread_10 s m args below meth c H locs 0 0 (MQ below (Qi D (VX cy ad st) (AX ad) s.heap.size r u') args s 0 0 (Ax (AX ad) s.heap.size)) (F0 m 0 ls []) := by
  unfold fX3_rowSpread_10 at h
  refine lv_aload_n C.1 C.2.1 dX3_rowSpread_0 rfl (lv_at hl 0 rfl) ?_
  refine gX_10_rowLow C hX3_rowSpread_10_X3 hK hP mX3_rowSpread_10_1 dX3_rowSpread_1 ?_
  refine lv_iload_n C.1 C.2.1 dX3_rowSpread_4 rfl (lv_at hl 1 rfl) ?_
  obtain ⟨hg1, h⟩ := gd_some h
  refine lX_57 C hK hP hg1 dX3_rowSpread_5 ?_
  refine lv_aload_n C.1 C.2.1 dX3_rowSpread_6 rfl (lv_at hl 0 rfl) ?_
  refine gX_10_rowHigh C hX3_rowSpread_10_X3 hK hP mX3_rowSpread_10_2 dX3_rowSpread_7 ?_
  refine lv_iload_n C.1 C.2.1 dX3_rowSpread_10 rfl (lv_at hl 1 rfl) ?_
  obtain ⟨hg2, h⟩ := gd_some h
  refine lX_58 C hK hP hg2 dX3_rowSpread_11 ?_
  refine lv_aload_n C.1 C.2.1 dX3_rowSpread_12 rfl (lv_at hl 0 rfl) ?_
  refine gX_10_readings C hX3_rowSpread_10_X3 hK hP mX3_rowSpread_10_3 dX3_rowSpread_13 ?_
  refine lv_aload_n C.1 C.2.1 dX3_rowSpread_16 rfl (lv_at hl 0 rfl) ?_
  refine gX_10_rowReading C hX3_rowSpread_10_X3 hK hP mX3_rowSpread_10_4 dX3_rowSpread_17 ?_
  refine lv_iload_n C.1 C.2.1 dX3_rowSpread_20 rfl (lv_at hl 1 rfl) ?_
  obtain ⟨⟨r3, u4⟩, hc5, h⟩ := bd_some h
  try dsimp only at h
  refine cg_i (As := [.int (u.1 32), .int x1]) (rest := [.int (u.2.1 58 x1.toNatClampNeg), .int (u.2.1 57 x1.toNatClampNeg)]) (AX_ge hJ) C hK hP hS (metX7_leanOf_7 l D cy ad st hJ _ (u.1 32) x1 hc5) (cwV 2 C.2.2.2.2.2.1 gX3_rowSpread_X7_leanOf rfl rfl rfl (by decide +kernel) ⟨(Nat.le_of_ble_eq_true rfl), (Nat.le_of_ble_eq_true rfl)⟩) 7 7 rfl rfl rfl hl.1 rfl (Nat.le_of_ble_eq_true rfl) dX3_rowSpread_21 ⟨Nat.zero_le _, Nat.zero_le _⟩ (fun H locs hP hS => ?_)
  obtain ⟨r6, hc8, h⟩ := bd_some h
  refine csn_i (As := [.int (u.2.1 57 x1.toNatClampNeg), .int (u.2.1 58 x1.toNatClampNeg), .int r3]) (rest := []) (AX_ge hJ) C hK hP hS (metX11_spread l D cy st _ (u.2.1 57 x1.toNatClampNeg) (u.2.1 58 x1.toNatClampNeg) r3 hc8) ⟨va_cnB 3 C.2.2.2.2.2.1 gX3_rowSpread_X11_spread_n79 rfl rfl rfl (hK.2.1 (RX3, 79, yX11_spread) (by decide +kernel)) (C.2.2.2.2.2.1 _ mX3_rowSpread_10_5) (by decide +kernel) ⟨(Nat.le_of_ble_eq_true rfl), (Nat.le_of_ble_eq_true rfl)⟩, C.2.2.2.2.2.1 _ mX3_rowSpread_10_6, trivial⟩ rfl hl.1 rfl (Nat.le_of_ble_eq_true rfl) dX3_rowSpread_24 ⟨Nat.zero_le _, Nat.zero_le _⟩ (fun H locs hP hS => ?_)
  cases h
  exact rt_i C hP hS dX3_rowSpread_27
theorem metX3_rowSpread_10 (l : Launch) (D : va_G) (cy : Nat → ClassId) (ad st : Nat → Nat) (hJ : JX ad st) (sz : Nat) (x1 : Int32) {u : SX} {r : Int32} {u' : SX} (h : fX3_rowSpread_10 x1 u = some (r, u')) : Met l yX3_rowSpread wsX3_rowSpread rmX3_rowSpread_10 (va_Pc [.ref (ad 10), .int x1] (Px D [(cy 0, .int), (cy 1, .long), (cy 2, .boolean), (cy 3, .byte), (cy 4, .object "HissHorn$Text")] st (VX cy ad st) sz u)) (Qi D (VX cy ad st) (AX ad) sz r u') 0 0 (Ax (AX ad) sz) := by
  refine Met.ofW (cc := cX3_rowSpread) (maxL := 2) (ret := (some .int)) (by decide) rfl ?_
  intro p e s m args below meth c s₁ B hml hv
  obtain ⟨rfl, hsz, hP, hK⟩ := hv
  subst hsz
  have C : Cx RX3 cX3_rowSpread 2 (some .int) wsX3_rowSpread p s m _ meth c := ⟨B.exec, B.bytes, hml, B.returns, findClass_of_methodNamed B.named, atoms_spec (ws := wsX3_rowSpread) B.pre, B.notSynchronized⟩
  have hl := lv_entry ([.ref (ad 10), .int x1]) (n := 2) (Nat.le_of_ble_eq_true rfl)
  rw [lg_entry_eq]
  exact wX3_rowSpread_10 C hK hJ x1 h hP va_S.rf hl

theorem zdX3_startRow_20 : (and (and (and (and (and (zk cX3_startRow 20 (.iload_n 3) 1) (zk cX3_startRow 21 (.aload_n 0) 1)) (and (zk cX3_startRow 22 (.getfield 49) 3) (zk cX3_startRow 25 (.getfield 93) 3))) (and (and (zk cX3_startRow 28 (.if_icmp .ge 53) 3) (zk cX3_startRow 81 (.return_) 1)) (and (zk cX3_startRow 31 (.aload_n 0) 1) (zk cX3_startRow 32 (.getfield 39) 3)))) (and (and (and (zk cX3_startRow 35 (.iload_n 3) 1) (zk cX3_startRow 36 (.aload_n 0) 1)) (and (zk cX3_startRow 37 (.getfield 49) 3) (zk cX3_startRow 40 (.getfield 63) 3))) (and (and (zk cX3_startRow 43 (.iload_n 3) 1) (zk cX3_startRow 44 (.iaload) 1)) (and (zk cX3_startRow 45 (.iastore) 1) (zk cX3_startRow 46 (.aload_n 0) 1))))) (and (and (and (and (zk cX3_startRow 47 (.getfield 42) 3) (zk cX3_startRow 50 (.iload_n 3) 1)) (and (zk cX3_startRow 51 (.aload_n 0) 1) (zk cX3_startRow 52 (.getfield 49) 3))) (and (and (zk cX3_startRow 55 (.getfield 66) 3) (zk cX3_startRow 58 (.iload_n 3) 1)) (and (zk cX3_startRow 59 (.iaload) 1) (zk cX3_startRow 60 (.iastore) 1)))) (and (and (and (zk cX3_startRow 61 (.aload_n 0) 1) (zk cX3_startRow 62 (.dup) 1)) (and (zk cX3_startRow 63 (.getfield 90) 3) (zk cX3_startRow 66 (.aload_n 0) 1))) (and (and (zk cX3_startRow 67 (.iload_n 3) 1) (zk cX3_startRow 68 (.invokevirtual 96) 3)) (and (zk cX3_startRow 71 (.iadd) 1) (zk cX3_startRow 72 (.putfield 90) 3)))))) = true := by decide +kernel
theorem dX3_startRow_20 : decode cX3_startRow 20 = .ok (.iload_n 3, 1) := zk_of (zk_l (zk_l (zk_l (zk_l (zk_l zdX3_startRow_20)))))
theorem dX3_startRow_21 : decode cX3_startRow 21 = .ok (.aload_n 0, 1) := zk_of (zk_r (zk_l (zk_l (zk_l (zk_l zdX3_startRow_20)))))
theorem dX3_startRow_22 : decode cX3_startRow 22 = .ok (.getfield 49, 3) := zk_of (zk_l (zk_r (zk_l (zk_l (zk_l zdX3_startRow_20)))))
theorem dX3_startRow_25 : decode cX3_startRow 25 = .ok (.getfield 93, 3) := zk_of (zk_r (zk_r (zk_l (zk_l (zk_l zdX3_startRow_20)))))
theorem dX3_startRow_28 : decode cX3_startRow 28 = .ok (.if_icmp .ge 53, 3) := zk_of (zk_l (zk_l (zk_r (zk_l (zk_l zdX3_startRow_20)))))
theorem dX3_startRow_81 : decode cX3_startRow 81 = .ok (.return_, 1) := zk_of (zk_r (zk_l (zk_r (zk_l (zk_l zdX3_startRow_20)))))
theorem dX3_startRow_31 : decode cX3_startRow 31 = .ok (.aload_n 0, 1) := zk_of (zk_l (zk_r (zk_r (zk_l (zk_l zdX3_startRow_20)))))
theorem dX3_startRow_32 : decode cX3_startRow 32 = .ok (.getfield 39, 3) := zk_of (zk_r (zk_r (zk_r (zk_l (zk_l zdX3_startRow_20)))))
theorem dX3_startRow_35 : decode cX3_startRow 35 = .ok (.iload_n 3, 1) := zk_of (zk_l (zk_l (zk_l (zk_r (zk_l zdX3_startRow_20)))))
theorem dX3_startRow_36 : decode cX3_startRow 36 = .ok (.aload_n 0, 1) := zk_of (zk_r (zk_l (zk_l (zk_r (zk_l zdX3_startRow_20)))))
theorem dX3_startRow_37 : decode cX3_startRow 37 = .ok (.getfield 49, 3) := zk_of (zk_l (zk_r (zk_l (zk_r (zk_l zdX3_startRow_20)))))
theorem dX3_startRow_40 : decode cX3_startRow 40 = .ok (.getfield 63, 3) := zk_of (zk_r (zk_r (zk_l (zk_r (zk_l zdX3_startRow_20)))))
theorem dX3_startRow_43 : decode cX3_startRow 43 = .ok (.iload_n 3, 1) := zk_of (zk_l (zk_l (zk_r (zk_r (zk_l zdX3_startRow_20)))))
theorem dX3_startRow_44 : decode cX3_startRow 44 = .ok (.iaload, 1) := zk_of (zk_r (zk_l (zk_r (zk_r (zk_l zdX3_startRow_20)))))
theorem dX3_startRow_45 : decode cX3_startRow 45 = .ok (.iastore, 1) := zk_of (zk_l (zk_r (zk_r (zk_r (zk_l zdX3_startRow_20)))))
theorem dX3_startRow_46 : decode cX3_startRow 46 = .ok (.aload_n 0, 1) := zk_of (zk_r (zk_r (zk_r (zk_r (zk_l zdX3_startRow_20)))))
theorem dX3_startRow_47 : decode cX3_startRow 47 = .ok (.getfield 42, 3) := zk_of (zk_l (zk_l (zk_l (zk_l (zk_r zdX3_startRow_20)))))
theorem dX3_startRow_50 : decode cX3_startRow 50 = .ok (.iload_n 3, 1) := zk_of (zk_r (zk_l (zk_l (zk_l (zk_r zdX3_startRow_20)))))
theorem dX3_startRow_51 : decode cX3_startRow 51 = .ok (.aload_n 0, 1) := zk_of (zk_l (zk_r (zk_l (zk_l (zk_r zdX3_startRow_20)))))
theorem dX3_startRow_52 : decode cX3_startRow 52 = .ok (.getfield 49, 3) := zk_of (zk_r (zk_r (zk_l (zk_l (zk_r zdX3_startRow_20)))))
theorem dX3_startRow_55 : decode cX3_startRow 55 = .ok (.getfield 66, 3) := zk_of (zk_l (zk_l (zk_r (zk_l (zk_r zdX3_startRow_20)))))
theorem dX3_startRow_58 : decode cX3_startRow 58 = .ok (.iload_n 3, 1) := zk_of (zk_r (zk_l (zk_r (zk_l (zk_r zdX3_startRow_20)))))
theorem dX3_startRow_59 : decode cX3_startRow 59 = .ok (.iaload, 1) := zk_of (zk_l (zk_r (zk_r (zk_l (zk_r zdX3_startRow_20)))))
theorem dX3_startRow_60 : decode cX3_startRow 60 = .ok (.iastore, 1) := zk_of (zk_r (zk_r (zk_r (zk_l (zk_r zdX3_startRow_20)))))
theorem dX3_startRow_61 : decode cX3_startRow 61 = .ok (.aload_n 0, 1) := zk_of (zk_l (zk_l (zk_l (zk_r (zk_r zdX3_startRow_20)))))
theorem dX3_startRow_62 : decode cX3_startRow 62 = .ok (.dup, 1) := zk_of (zk_r (zk_l (zk_l (zk_r (zk_r zdX3_startRow_20)))))
theorem dX3_startRow_63 : decode cX3_startRow 63 = .ok (.getfield 90, 3) := zk_of (zk_l (zk_r (zk_l (zk_r (zk_r zdX3_startRow_20)))))
theorem dX3_startRow_66 : decode cX3_startRow 66 = .ok (.aload_n 0, 1) := zk_of (zk_r (zk_r (zk_l (zk_r (zk_r zdX3_startRow_20)))))
theorem dX3_startRow_67 : decode cX3_startRow 67 = .ok (.iload_n 3, 1) := zk_of (zk_l (zk_l (zk_r (zk_r (zk_r zdX3_startRow_20)))))
theorem dX3_startRow_68 : decode cX3_startRow 68 = .ok (.invokevirtual 96, 3) := zk_of (zk_r (zk_l (zk_r (zk_r (zk_r zdX3_startRow_20)))))
theorem dX3_startRow_71 : decode cX3_startRow 71 = .ok (.iadd, 1) := zk_of (zk_l (zk_r (zk_r (zk_r (zk_r zdX3_startRow_20)))))
theorem dX3_startRow_72 : decode cX3_startRow 72 = .ok (.putfield 90, 3) := zk_of (zk_r (zk_r (zk_r (zk_r (zk_r zdX3_startRow_20)))))
set_option maxRecDepth 20000 in
theorem ggX3_startRow_X3_rowSpread : GoodIn wsX3_startRow wsX3_rowSpread := ggi (fun w h => List.mem_cons_of_mem _ (List.mem_append_left _ (List.mem_append_left _ (List.mem_append_left _ (List.mem_append_left _ (List.mem_append_left _ (List.mem_append_right _ (List.mem_append_left _ h)))))))) gs_X3_rowSpread
set_option maxRecDepth 20000 in
theorem gX3_startRow_X3_rowSpread : GoodIn wsX3_startRow (wsV RX3 96 RX3 yX3_rowSpread wsX3_rowSpread) := goodIn_app (goodIn_of _ (by decide +kernel)) ggX3_startRow_X3_rowSpread
theorem zdX3_startRow_75 : (and (and (and (and (zk cX3_startRow 75 (.iinc 3 1) 3) (zk cX3_startRow 78 (.goto (-58)) 3)) (and (zk cX3_startRow 0 (.aload_n 0) 1) (zk cX3_startRow 1 (.getfield 49) 3))) (and (and (zk cX3_startRow 4 (.iload_n 2) 1) (zk cX3_startRow 5 (.invokevirtual 57) 3)) (zk cX3_startRow 8 (.aload_n 0) 1))) (and (and (and (zk cX3_startRow 9 (.iload_n 1) 1) (zk cX3_startRow 10 (.putfield 87) 3)) (and (zk cX3_startRow 13 (.aload_n 0) 1) (zk cX3_startRow 14 (.iconst 0) 1))) (and (and (zk cX3_startRow 15 (.putfield 90) 3) (zk cX3_startRow 18 (.iconst 0) 1)) (zk cX3_startRow 19 (.istore_n 3) 1)))) = true := by decide +kernel
theorem dX3_startRow_75 : decode cX3_startRow 75 = .ok (.iinc 3 1, 3) := zk_of (zk_l (zk_l (zk_l (zk_l zdX3_startRow_75))))
theorem dX3_startRow_78 : decode cX3_startRow 78 = .ok (.goto (-58), 3) := zk_of (zk_r (zk_l (zk_l (zk_l zdX3_startRow_75))))
theorem dX3_startRow_0 : decode cX3_startRow 0 = .ok (.aload_n 0, 1) := zk_of (zk_l (zk_r (zk_l (zk_l zdX3_startRow_75))))
theorem dX3_startRow_1 : decode cX3_startRow 1 = .ok (.getfield 49, 3) := zk_of (zk_r (zk_r (zk_l (zk_l zdX3_startRow_75))))
theorem dX3_startRow_4 : decode cX3_startRow 4 = .ok (.iload_n 2, 1) := zk_of (zk_l (zk_l (zk_r (zk_l zdX3_startRow_75))))
theorem dX3_startRow_5 : decode cX3_startRow 5 = .ok (.invokevirtual 57, 3) := zk_of (zk_r (zk_l (zk_r (zk_l zdX3_startRow_75))))
theorem dX3_startRow_8 : decode cX3_startRow 8 = .ok (.aload_n 0, 1) := zk_of (zk_r (zk_r (zk_l zdX3_startRow_75)))
theorem dX3_startRow_9 : decode cX3_startRow 9 = .ok (.iload_n 1, 1) := zk_of (zk_l (zk_l (zk_l (zk_r zdX3_startRow_75))))
theorem dX3_startRow_10 : decode cX3_startRow 10 = .ok (.putfield 87, 3) := zk_of (zk_r (zk_l (zk_l (zk_r zdX3_startRow_75))))
theorem dX3_startRow_13 : decode cX3_startRow 13 = .ok (.aload_n 0, 1) := zk_of (zk_l (zk_r (zk_l (zk_r zdX3_startRow_75))))
theorem dX3_startRow_14 : decode cX3_startRow 14 = .ok (.iconst 0, 1) := zk_of (zk_r (zk_r (zk_l (zk_r zdX3_startRow_75))))
theorem dX3_startRow_15 : decode cX3_startRow 15 = .ok (.putfield 90, 3) := zk_of (zk_l (zk_l (zk_r (zk_r zdX3_startRow_75))))
theorem dX3_startRow_18 : decode cX3_startRow 18 = .ok (.iconst 0, 1) := zk_of (zk_r (zk_l (zk_r (zk_r zdX3_startRow_75))))
theorem dX3_startRow_19 : decode cX3_startRow 19 = .ok (.istore_n 3, 1) := zk_of (zk_r (zk_r (zk_r zdX3_startRow_75)))
set_option maxRecDepth 20000 in
theorem ggX3_startRow_X6_recall : GoodIn wsX3_startRow wsX6_recall := ggi (fun w h => List.mem_cons_of_mem _ (List.mem_append_left _ (List.mem_append_left _ (List.mem_append_left _ (List.mem_append_left _ (List.mem_append_left _ (List.mem_append_right _ (List.mem_append_right _ h)))))))) gs_X6_recall
set_option maxRecDepth 20000 in
theorem gX3_startRow_X6_recall : GoodIn wsX3_startRow (wsV RX3 57 RX6 yX6_recall wsX6_recall) := goodIn_app (goodIn_of _ (by decide +kernel)) ggX3_startRow_X6_recall
/-- HissHorn$Looks.startRow(II)V of cell 10 -/
def rmX3_startRow_10 : Room := { frames := 6, cells := 0, slots := 0, locals := 132 }
theorem hX3_startRow_10_X3 : ∀ w ∈ u_ws RX3 TX3 19, w ∈ wsX3_startRow := fun w h => (List.mem_cons_of_mem _ (List.mem_append_left _ (List.mem_append_left _ (List.mem_append_left _ (List.mem_append_left _ (List.mem_append_right _ h))))))
theorem mX3_startRow_10_1 : Cond.fieldLink RX3 49 "HissHorn$Looks" "parts" "LHissHorn$Parts;" ∈ wsX3_startRow := (List.mem_cons_of_mem _ (List.mem_append_left _ (List.mem_append_left _ (List.mem_append_left _ (List.mem_append_left _ (List.mem_append_left _ (List.mem_append_left _ (List.mem_of_getElem? (i := 8) rfl))))))))
theorem mX3_startRow_10_2 : Cond.fieldLink RX3 87 "HissHorn$Looks" "rowReading" "I" ∈ wsX3_startRow := (List.mem_cons_of_mem _ (List.mem_append_left _ (List.mem_append_left _ (List.mem_append_left _ (List.mem_append_left _ (List.mem_append_left _ (List.mem_append_left _ (List.mem_of_getElem? (i := 9) rfl))))))))
theorem mX3_startRow_10_3 : Cond.fieldLink RX3 90 "HissHorn$Looks" "rowWidth" "I" ∈ wsX3_startRow := (List.mem_cons_of_mem _ (List.mem_append_left _ (List.mem_append_left _ (List.mem_append_left _ (List.mem_append_left _ (List.mem_append_left _ (List.mem_append_left _ (List.mem_of_getElem? (i := 10) rfl))))))))
theorem hX3_startRow_10_X6 : ∀ w ∈ u_ws RX6 TX6 17, w ∈ wsX3_startRow := fun w h => (List.mem_cons_of_mem _ (List.mem_append_left _ (List.mem_append_left _ (List.mem_append_left _ (List.mem_append_right _ h)))))
theorem mX3_startRow_10_5 : Cond.fieldLink RX3 93 "HissHorn$Parts" "known" "I" ∈ wsX3_startRow := (List.mem_cons_of_mem _ (List.mem_append_left _ (List.mem_append_left _ (List.mem_append_left _ (List.mem_append_left _ (List.mem_append_left _ (List.mem_append_left _ (List.mem_of_getElem? (i := 11) rfl))))))))
theorem mX3_startRow_10_6 : Cond.fieldLink RX3 39 "HissHorn$Looks" "rowLow" "[I" ∈ wsX3_startRow := (List.mem_cons_of_mem _ (List.mem_append_left _ (List.mem_append_left _ (List.mem_append_left _ (List.mem_append_left _ (List.mem_append_left _ (List.mem_append_left _ (List.mem_of_getElem? (i := 12) rfl))))))))
theorem mX3_startRow_10_7 : Cond.fieldLink RX3 63 "HissHorn$Parts" "low" "[I" ∈ wsX3_startRow := (List.mem_cons_of_mem _ (List.mem_append_left _ (List.mem_append_left _ (List.mem_append_left _ (List.mem_append_left _ (List.mem_append_left _ (List.mem_append_left _ (List.mem_of_getElem? (i := 13) rfl))))))))
theorem mX3_startRow_10_8 : Cond.fieldLink RX3 42 "HissHorn$Looks" "rowHigh" "[I" ∈ wsX3_startRow := (List.mem_cons_of_mem _ (List.mem_append_left _ (List.mem_append_left _ (List.mem_append_left _ (List.mem_append_left _ (List.mem_append_left _ (List.mem_append_left _ (List.mem_of_getElem? (i := 14) rfl))))))))
theorem mX3_startRow_10_9 : Cond.fieldLink RX3 66 "HissHorn$Parts" "high" "[I" ∈ wsX3_startRow := (List.mem_cons_of_mem _ (List.mem_append_left _ (List.mem_append_left _ (List.mem_append_left _ (List.mem_append_left _ (List.mem_append_left _ (List.mem_append_left _ (List.mem_of_getElem? (i := 15) rfl))))))))
def LX3_startRow_10_20  : Nat → Int32 → SX → Option (Int32 × SX)
  | 0, _, _ => none
  | n + 1, z3, u => (if (u.1 10) ≤ z3 then (some (0, u)) else (gd (inb z3 12) (gd (inb z3 12) (lt (sA u 57 (upd (u.2.1 57) z3.toNatClampNeg (u.2.1 27 z3.toNatClampNeg))) fun u10 => (gd (inb z3 12) (gd (inb z3 12) (lt (sA u10 58 (upd (u10.2.1 58) z3.toNatClampNeg (u10.2.1 28 z3.toNatClampNeg))) fun u14 => ((fX3_rowSpread_10 z3 u14).bind fun q => match q with | (r16, u17) => (lt (sI u17 33 ((u14.1 33) + r16)) fun u19 => ((LX3_startRow_10_20 n) (z3 + 1) u19))))))))))
def fX3_startRow_10 (x1 : Int32) (x2 : Int32) (u : SX) : Option (Int32 × SX) := ((fX6_recall_6 x2 u).bind fun q => match q with | (r1, u2) => (lt (sI u2 32 x1) fun u4 => (lt (sI u4 33 0) fun u6 => (LX3_startRow_10_20  5000 0 u6))))
set_option maxHeartbeats 4000000 in
set_option maxRecDepth 100000 in
theorem wLX3_startRow_10_20 {p : Program} {l : Launch} {e : Env} {s : State} {m : MethodId} {args : Array Value} {below : List Frame} {meth : Method} {c : Code} {D : va_G} {cy : Nat → ClassId} {ad st : Nat → Nat} (C : Cx RX3 cX3_startRow 4 none wsX3_startRow p s m args meth c) (hK : Ky D [(cy 0, .int), (cy 1, .long), (cy 2, .boolean), (cy 3, .byte), (cy 4, .object "HissHorn$Text")] st s) (hJ : JX ad st) {r : Int32} {u' : SX}   : ∀ (n : Nat) (z3 : Int32) (u : SX) (H : Heap) (locs : List Loc) (ls : Array Slot), LX3_startRow_10_20  n z3 u = some (r, u') → va_P D vwCl (VX cy ad st u) H → va_S (Ax (AX ad) s.heap.size) s.heap H locs → lv_has ls 4 [(0, .ref (ad 10)), (3, .int z3)] → W p l e rmX3_startRow_10 s m args below meth c H locs 0 0 (MQ below (Qv D (VX cy ad st) (AX ad) s.heap.size r u') args s 0 0 (Ax (AX ad) s.heap.size)) (F0 m 20 ls []) := by
  intro n
  induction n with
  | zero =>
    intro z3 u H locs ls h
    exact absurd h (by intro q; cases q)
  | succ n ih =>
    intro z3 u H locs ls h hP hS hl
    rw [LX3_startRow_10_20] at h
    refine lv_iload_n C.1 C.2.1 dX3_startRow_20 rfl (lv_at hl 1 rfl) ?_
    refine lv_aload_n C.1 C.2.1 dX3_startRow_21 rfl (lv_at hl 0 rfl) ?_
    refine gX_10_parts C hX3_startRow_10_X3 hK hP mX3_startRow_10_1 dX3_startRow_22 ?_
    refine gX_6_known C hX3_startRow_10_X6 hK hP mX3_startRow_10_5 dX3_startRow_25 ?_
    refine lv_icmp_ge (tgt := 81) C.1 C.2.1 dX3_startRow_28 (by decide) (fun c28 => ?_) (fun c28 => ?_)
    · rw [if_pos c28] at h
      cases h
      exact rt_v C hP hS dX3_startRow_81
    · rw [if_neg c28] at h
      refine lv_aload_n C.1 C.2.1 dX3_startRow_31 rfl (lv_at hl 0 rfl) ?_
      refine gX_10_rowLow C hX3_startRow_10_X3 hK hP mX3_startRow_10_6 dX3_startRow_32 ?_
      refine lv_iload_n C.1 C.2.1 dX3_startRow_35 rfl (lv_at hl 1 rfl) ?_
      refine lv_aload_n C.1 C.2.1 dX3_startRow_36 rfl (lv_at hl 0 rfl) ?_
      refine gX_10_parts C hX3_startRow_10_X3 hK hP mX3_startRow_10_1 dX3_startRow_37 ?_
      refine gX_6_low C hX3_startRow_10_X6 hK hP mX3_startRow_10_7 dX3_startRow_40 ?_
      refine lv_iload_n C.1 C.2.1 dX3_startRow_43 rfl (lv_at hl 1 rfl) ?_
      obtain ⟨hg8, h⟩ := gd_some h
      refine lX_27 C hK hP hg8 dX3_startRow_44 ?_
      obtain ⟨hg9, h⟩ := gd_some h
      refine tX_57 C hK hP hJ hS hg9 dX3_startRow_45 (fun H locs hP hS => ?_)
      obtain ⟨u10, hu11, h⟩ := lt_some h
      rw [← hu11] at hP
      refine lv_aload_n C.1 C.2.1 dX3_startRow_46 rfl (lv_at hl 0 rfl) ?_
      refine gX_10_rowHigh C hX3_startRow_10_X3 hK hP mX3_startRow_10_8 dX3_startRow_47 ?_
      refine lv_iload_n C.1 C.2.1 dX3_startRow_50 rfl (lv_at hl 1 rfl) ?_
      refine lv_aload_n C.1 C.2.1 dX3_startRow_51 rfl (lv_at hl 0 rfl) ?_
      refine gX_10_parts C hX3_startRow_10_X3 hK hP mX3_startRow_10_1 dX3_startRow_52 ?_
      refine gX_6_high C hX3_startRow_10_X6 hK hP mX3_startRow_10_9 dX3_startRow_55 ?_
      refine lv_iload_n C.1 C.2.1 dX3_startRow_58 rfl (lv_at hl 1 rfl) ?_
      obtain ⟨hg12, h⟩ := gd_some h
      refine lX_28 C hK hP hg12 dX3_startRow_59 ?_
      obtain ⟨hg13, h⟩ := gd_some h
      refine tX_58 C hK hP hJ hS hg13 dX3_startRow_60 (fun H locs hP hS => ?_)
      obtain ⟨u14, hu15, h⟩ := lt_some h
      rw [← hu15] at hP
      refine lv_aload_n C.1 C.2.1 dX3_startRow_61 rfl (lv_at hl 0 rfl) ?_
      refine lv_dup C.1 C.2.1 dX3_startRow_62 rfl ?_
      refine gX_10_rowWidth C hX3_startRow_10_X3 hK hP mX3_startRow_10_3 dX3_startRow_63 ?_
      refine lv_aload_n C.1 C.2.1 dX3_startRow_66 rfl (lv_at hl 0 rfl) ?_
      refine lv_iload_n C.1 C.2.1 dX3_startRow_67 rfl (lv_at hl 1 rfl) ?_
      obtain ⟨⟨r16, u17⟩, hc18, h⟩ := bd_some h
      try dsimp only at h
      refine cg_i (As := [.int z3]) (rest := [.int (u14.1 33), .ref (ad 10)]) (AX_ge hJ) C hK hP hS (metX3_rowSpread_10 l D cy ad st hJ _ z3 hc18) (cwV 1 C.2.2.2.2.2.1 gX3_startRow_X3_rowSpread rfl rfl rfl (by decide +kernel) ⟨(Nat.le_of_ble_eq_true rfl), (Nat.le_of_ble_eq_true rfl)⟩) 10 3 rfl rfl rfl hl.1 rfl (Nat.le_of_ble_eq_true rfl) dX3_startRow_68 ⟨Nat.zero_le _, Nat.zero_le _⟩ (fun H locs hP hS => ?_)
      refine lv_iadd C.1 C.2.1 dX3_startRow_71 ?_
      refine pX_10_rowWidth C hX3_startRow_10_X3 hK hP hJ hS mX3_startRow_10_3 dX3_startRow_72 (fun H locs hP hS => ?_)
      obtain ⟨u19, hu20, h⟩ := lt_some h
      rw [← hu20] at hP
      refine lv_iinc (v := z3 + 1) (lv' := [(3, .int (z3 + 1)), (0, .ref (ad 10))]) C.1 C.2.1 dX3_startRow_75 hl (k := 1) rfl rfl (by decide) rfl (fun ls hl => ?_)
      replace hl := lv_sub (l' := [(0, .ref (ad 10)), (3, .int (z3 + 1))]) hl [1, 0] rfl
      refine lv_goto (tgt := 20) C.1 C.2.1 dX3_startRow_78 (by decide) ?_
      exact ih _ _ _ _ _ h hP hS hl
set_option maxHeartbeats 4000000 in
set_option maxRecDepth 100000 in
theorem wX3_startRow_10 {p : Program} {l : Launch} {e : Env} {s : State} {m : MethodId} {args : Array Value} {below : List Frame} {meth : Method} {c : Code} {D : va_G} {cy : Nat → ClassId} {ad st : Nat → Nat} (C : Cx RX3 cX3_startRow 4 none wsX3_startRow p s m args meth c) (hK : Ky D [(cy 0, .int), (cy 1, .long), (cy 2, .boolean), (cy 3, .byte), (cy 4, .object "HissHorn$Text")] st s) (hJ : JX ad st) (x1 : Int32) (x2 : Int32) {u : SX} {r : Int32} {u' : SX} {H : Heap} {locs : List Loc} {ls : Array Slot} (h : fX3_startRow_10 x1 x2 u = some (r, u')) (hP : va_P D vwCl (VX cy ad st u) H) (hS : va_S (Ax (AX ad) s.heap.size) s.heap H locs) (hl : lv_has ls 4 [(0, .ref (ad 10)), (1, .int x1), (2, .int x2)]) : W p l e rmX3_startRow_10 s m args below meth c H locs 0 0 (MQ below (Qv D (VX cy ad st) (AX ad) s.heap.size r u') args s 0 0 (Ax (AX ad) s.heap.size)) (F0 m 0 ls []) := by
  unfold fX3_startRow_10 at h
  refine lv_aload_n C.1 C.2.1 dX3_startRow_0 rfl (lv_at hl 0 rfl) ?_
  refine gX_10_parts C hX3_startRow_10_X3 hK hP mX3_startRow_10_1 dX3_startRow_1 ?_
  refine lv_iload_n C.1 C.2.1 dX3_startRow_4 rfl (lv_at hl 2 rfl) ?_
  obtain ⟨⟨r1, u2⟩, hc3, h⟩ := bd_some h
  try dsimp only at h
  refine cg_v (As := [.int x2]) (rest := []) (AX_ge hJ) C hK hP hS (metX6_recall_6 l D cy ad st hJ _ x2 hc3) (cwV 1 C.2.2.2.2.2.1 gX3_startRow_X6_recall rfl rfl rfl (by decide +kernel) ⟨(Nat.le_of_ble_eq_true rfl), (Nat.le_of_ble_eq_true rfl)⟩) 6 6 rfl rfl rfl hl.1 rfl (Nat.le_of_ble_eq_true rfl) dX3_startRow_5 ⟨Nat.zero_le _, Nat.zero_le _⟩ (fun H locs hP hS => ?_)
  refine lv_aload_n C.1 C.2.1 dX3_startRow_8 rfl (lv_at hl 0 rfl) ?_
  refine lv_iload_n C.1 C.2.1 dX3_startRow_9 rfl (lv_at hl 1 rfl) ?_
  refine pX_10_rowReading C hX3_startRow_10_X3 hK hP hJ hS mX3_startRow_10_2 dX3_startRow_10 (fun H locs hP hS => ?_)
  obtain ⟨u4, hu5, h⟩ := lt_some h
  rw [← hu5] at hP
  refine lv_aload_n C.1 C.2.1 dX3_startRow_13 rfl (lv_at hl 0 rfl) ?_
  refine lv_iconst (v := 0) C.1 C.2.1 dX3_startRow_14 (by decide) ?_
  refine pX_10_rowWidth C hX3_startRow_10_X3 hK hP hJ hS mX3_startRow_10_3 dX3_startRow_15 (fun H locs hP hS => ?_)
  obtain ⟨u6, hu7, h⟩ := lt_some h
  rw [← hu7] at hP
  refine lv_iconst (v := 0) C.1 C.2.1 dX3_startRow_18 (by decide) ?_
  refine lv_istore_n (lv' := [(3, .int 0), (0, .ref (ad 10)), (1, .int x1), (2, .int x2)]) C.1 C.2.1 dX3_startRow_19 rfl hl (by decide) rfl (fun ls hl => ?_)
  replace hl := lv_sub (l' := [(0, .ref (ad 10)), (1, .int x1), (2, .int x2), (3, .int 0)]) hl [1, 2, 3, 0] rfl
  exact wLX3_startRow_10_20 C hK hJ  5000 _ _ _ _ _ h hP hS (lv_sub hl [0, 3] rfl)
theorem metX3_startRow_10 (l : Launch) (D : va_G) (cy : Nat → ClassId) (ad st : Nat → Nat) (hJ : JX ad st) (sz : Nat) (x1 : Int32) (x2 : Int32) {u : SX} {r : Int32} {u' : SX} (h : fX3_startRow_10 x1 x2 u = some (r, u')) : Met l yX3_startRow wsX3_startRow rmX3_startRow_10 (va_Pc [.ref (ad 10), .int x1, .int x2] (Px D [(cy 0, .int), (cy 1, .long), (cy 2, .boolean), (cy 3, .byte), (cy 4, .object "HissHorn$Text")] st (VX cy ad st) sz u)) (Qv D (VX cy ad st) (AX ad) sz r u') 0 0 (Ax (AX ad) sz) := by
  refine Met.ofW (cc := cX3_startRow) (maxL := 4) (ret := none) (by decide) rfl ?_
  intro p e s m args below meth c s₁ B hml hv
  obtain ⟨rfl, hsz, hP, hK⟩ := hv
  subst hsz
  have C : Cx RX3 cX3_startRow 4 none wsX3_startRow p s m _ meth c := ⟨B.exec, B.bytes, hml, B.returns, findClass_of_methodNamed B.named, atoms_spec (ws := wsX3_startRow) B.pre, B.notSynchronized⟩
  have hl := lv_entry ([.ref (ad 10), .int x1, .int x2]) (n := 4) (Nat.le_of_ble_eq_true rfl)
  rw [lg_entry_eq]
  exact wX3_startRow_10 C hK hJ x1 x2 h hP va_S.rf hl

theorem zdX3_cut_68 : (and (and (and (and (and (zk cX3_cut 68 (.iastore) 1) (zk cX3_cut 69 (.aload_n 0) 1)) (and (zk cX3_cut 70 (.getfield 42) 3) (zk cX3_cut 73 (.iload_n 2) 1))) (and (and (zk cX3_cut 74 (.iload_n 3) 1) (zk cX3_cut 75 (.ifCond .eq 12) 3)) (and (zk cX3_cut 87 (.aload_n 0) 1) (zk cX3_cut 88 (.getfield 42) 3)))) (and (and (and (zk cX3_cut 91 (.iload_n 2) 1) (zk cX3_cut 92 (.iaload) 1)) (and (zk cX3_cut 93 (.aload_n 0) 1) (zk cX3_cut 94 (.getfield 18) 3))) (and (and (zk cX3_cut 97 (.iload_n 1) 1) (zk cX3_cut 98 (.iaload) 1)) (and (zk cX3_cut 99 (.invokestatic 125) 3) (zk cX3_cut 102 (.iastore) 1))))) (and (and (and (and (zk cX3_cut 103 (.return_) 1) (zk cX3_cut 78 (.aload_n 0) 1)) (and (zk cX3_cut 79 (.getfield 18) 3) (zk cX3_cut 82 (.iload_n 1) 1))) (and (and (zk cX3_cut 83 (.iaload) 1) (zk cX3_cut 84 (.goto 18) 3)) (and (zk cX3_cut 0 (.aload_n 0) 1) (zk cX3_cut 1 (.getfield 9) 3)))) (and (and (and (zk cX3_cut 4 (.iload_n 1) 1) (zk cX3_cut 5 (.iaload) 1)) (and (zk cX3_cut 6 (.istore_n 2) 1) (zk cX3_cut 7 (.aload_n 0) 1))) (and (and (zk cX3_cut 8 (.getfield 39) 3) (zk cX3_cut 11 (.iload_n 2) 1)) (and (zk cX3_cut 12 (.iaload) 1) (zk cX3_cut 13 (.aload_n 0) 1)))))) = true := by decide +kernel
theorem dX3_cut_68 : decode cX3_cut 68 = .ok (.iastore, 1) := zk_of (zk_l (zk_l (zk_l (zk_l (zk_l zdX3_cut_68)))))
theorem dX3_cut_69 : decode cX3_cut 69 = .ok (.aload_n 0, 1) := zk_of (zk_r (zk_l (zk_l (zk_l (zk_l zdX3_cut_68)))))
theorem dX3_cut_70 : decode cX3_cut 70 = .ok (.getfield 42, 3) := zk_of (zk_l (zk_r (zk_l (zk_l (zk_l zdX3_cut_68)))))
theorem dX3_cut_73 : decode cX3_cut 73 = .ok (.iload_n 2, 1) := zk_of (zk_r (zk_r (zk_l (zk_l (zk_l zdX3_cut_68)))))
theorem dX3_cut_74 : decode cX3_cut 74 = .ok (.iload_n 3, 1) := zk_of (zk_l (zk_l (zk_r (zk_l (zk_l zdX3_cut_68)))))
theorem dX3_cut_75 : decode cX3_cut 75 = .ok (.ifCond .eq 12, 3) := zk_of (zk_r (zk_l (zk_r (zk_l (zk_l zdX3_cut_68)))))
theorem dX3_cut_87 : decode cX3_cut 87 = .ok (.aload_n 0, 1) := zk_of (zk_l (zk_r (zk_r (zk_l (zk_l zdX3_cut_68)))))
theorem dX3_cut_88 : decode cX3_cut 88 = .ok (.getfield 42, 3) := zk_of (zk_r (zk_r (zk_r (zk_l (zk_l zdX3_cut_68)))))
theorem dX3_cut_91 : decode cX3_cut 91 = .ok (.iload_n 2, 1) := zk_of (zk_l (zk_l (zk_l (zk_r (zk_l zdX3_cut_68)))))
theorem dX3_cut_92 : decode cX3_cut 92 = .ok (.iaload, 1) := zk_of (zk_r (zk_l (zk_l (zk_r (zk_l zdX3_cut_68)))))
theorem dX3_cut_93 : decode cX3_cut 93 = .ok (.aload_n 0, 1) := zk_of (zk_l (zk_r (zk_l (zk_r (zk_l zdX3_cut_68)))))
theorem dX3_cut_94 : decode cX3_cut 94 = .ok (.getfield 18, 3) := zk_of (zk_r (zk_r (zk_l (zk_r (zk_l zdX3_cut_68)))))
theorem dX3_cut_97 : decode cX3_cut 97 = .ok (.iload_n 1, 1) := zk_of (zk_l (zk_l (zk_r (zk_r (zk_l zdX3_cut_68)))))
theorem dX3_cut_98 : decode cX3_cut 98 = .ok (.iaload, 1) := zk_of (zk_r (zk_l (zk_r (zk_r (zk_l zdX3_cut_68)))))
theorem dX3_cut_99 : decode cX3_cut 99 = .ok (.invokestatic 125, 3) := zk_of (zk_l (zk_r (zk_r (zk_r (zk_l zdX3_cut_68)))))
theorem dX3_cut_102 : decode cX3_cut 102 = .ok (.iastore, 1) := zk_of (zk_r (zk_r (zk_r (zk_r (zk_l zdX3_cut_68)))))
theorem dX3_cut_103 : decode cX3_cut 103 = .ok (.return_, 1) := zk_of (zk_l (zk_l (zk_l (zk_l (zk_r zdX3_cut_68)))))
theorem dX3_cut_78 : decode cX3_cut 78 = .ok (.aload_n 0, 1) := zk_of (zk_r (zk_l (zk_l (zk_l (zk_r zdX3_cut_68)))))
theorem dX3_cut_79 : decode cX3_cut 79 = .ok (.getfield 18, 3) := zk_of (zk_l (zk_r (zk_l (zk_l (zk_r zdX3_cut_68)))))
theorem dX3_cut_82 : decode cX3_cut 82 = .ok (.iload_n 1, 1) := zk_of (zk_r (zk_r (zk_l (zk_l (zk_r zdX3_cut_68)))))
theorem dX3_cut_83 : decode cX3_cut 83 = .ok (.iaload, 1) := zk_of (zk_l (zk_l (zk_r (zk_l (zk_r zdX3_cut_68)))))
theorem dX3_cut_84 : decode cX3_cut 84 = .ok (.goto 18, 3) := zk_of (zk_r (zk_l (zk_r (zk_l (zk_r zdX3_cut_68)))))
theorem dX3_cut_0 : decode cX3_cut 0 = .ok (.aload_n 0, 1) := zk_of (zk_l (zk_r (zk_r (zk_l (zk_r zdX3_cut_68)))))
theorem dX3_cut_1 : decode cX3_cut 1 = .ok (.getfield 9, 3) := zk_of (zk_r (zk_r (zk_r (zk_l (zk_r zdX3_cut_68)))))
theorem dX3_cut_4 : decode cX3_cut 4 = .ok (.iload_n 1, 1) := zk_of (zk_l (zk_l (zk_l (zk_r (zk_r zdX3_cut_68)))))
theorem dX3_cut_5 : decode cX3_cut 5 = .ok (.iaload, 1) := zk_of (zk_r (zk_l (zk_l (zk_r (zk_r zdX3_cut_68)))))
theorem dX3_cut_6 : decode cX3_cut 6 = .ok (.istore_n 2, 1) := zk_of (zk_l (zk_r (zk_l (zk_r (zk_r zdX3_cut_68)))))
theorem dX3_cut_7 : decode cX3_cut 7 = .ok (.aload_n 0, 1) := zk_of (zk_r (zk_r (zk_l (zk_r (zk_r zdX3_cut_68)))))
theorem dX3_cut_8 : decode cX3_cut 8 = .ok (.getfield 39, 3) := zk_of (zk_l (zk_l (zk_r (zk_r (zk_r zdX3_cut_68)))))
theorem dX3_cut_11 : decode cX3_cut 11 = .ok (.iload_n 2, 1) := zk_of (zk_r (zk_l (zk_r (zk_r (zk_r zdX3_cut_68)))))
theorem dX3_cut_12 : decode cX3_cut 12 = .ok (.iaload, 1) := zk_of (zk_l (zk_r (zk_r (zk_r (zk_r zdX3_cut_68)))))
theorem dX3_cut_13 : decode cX3_cut 13 = .ok (.aload_n 0, 1) := zk_of (zk_r (zk_r (zk_r (zk_r (zk_r zdX3_cut_68)))))
theorem zdX3_cut_14 : (and (and (and (and (and (zk cX3_cut 14 (.getfield 42) 3) (zk cX3_cut 17 (.iload_n 2) 1)) (and (zk cX3_cut 18 (.iaload) 1) (zk cX3_cut 19 (.aload_n 0) 1))) (and (and (zk cX3_cut 20 (.getfield 15) 3) (zk cX3_cut 23 (.iload_n 1) 1)) (and (zk cX3_cut 24 (.iaload) 1) (zk cX3_cut 25 (.aload_n 0) 1)))) (and (and (and (zk cX3_cut 26 (.getfield 18) 3) (zk cX3_cut 29 (.iload_n 1) 1)) (and (zk cX3_cut 30 (.iaload) 1) (zk cX3_cut 31 (.invokestatic 116) 3))) (and (and (zk cX3_cut 34 (.istore_n 3) 1) (zk cX3_cut 35 (.aload_n 0) 1)) (and (zk cX3_cut 36 (.getfield 39) 3) (zk cX3_cut 39 (.iload_n 2) 1))))) (and (and (and (and (zk cX3_cut 40 (.iload_n 3) 1) (zk cX3_cut 41 (.ifCond .eq 12) 3)) (and (zk cX3_cut 53 (.aload_n 0) 1) (zk cX3_cut 54 (.getfield 39) 3))) (and (and (zk cX3_cut 57 (.iload_n 2) 1) (zk cX3_cut 58 (.iaload) 1)) (and (zk cX3_cut 59 (.aload_n 0) 1) (zk cX3_cut 60 (.getfield 15) 3)))) (and (and (and (zk cX3_cut 63 (.iload_n 1) 1) (zk cX3_cut 64 (.iaload) 1)) (and (zk cX3_cut 65 (.invokestatic 120) 3) (zk cX3_cut 44 (.aload_n 0) 1))) (and (and (zk cX3_cut 45 (.getfield 15) 3) (zk cX3_cut 48 (.iload_n 1) 1)) (and (zk cX3_cut 49 (.iaload) 1) (zk cX3_cut 50 (.goto 18) 3)))))) = true := by decide +kernel
theorem dX3_cut_14 : decode cX3_cut 14 = .ok (.getfield 42, 3) := zk_of (zk_l (zk_l (zk_l (zk_l (zk_l zdX3_cut_14)))))
theorem dX3_cut_17 : decode cX3_cut 17 = .ok (.iload_n 2, 1) := zk_of (zk_r (zk_l (zk_l (zk_l (zk_l zdX3_cut_14)))))
theorem dX3_cut_18 : decode cX3_cut 18 = .ok (.iaload, 1) := zk_of (zk_l (zk_r (zk_l (zk_l (zk_l zdX3_cut_14)))))
theorem dX3_cut_19 : decode cX3_cut 19 = .ok (.aload_n 0, 1) := zk_of (zk_r (zk_r (zk_l (zk_l (zk_l zdX3_cut_14)))))
theorem dX3_cut_20 : decode cX3_cut 20 = .ok (.getfield 15, 3) := zk_of (zk_l (zk_l (zk_r (zk_l (zk_l zdX3_cut_14)))))
theorem dX3_cut_23 : decode cX3_cut 23 = .ok (.iload_n 1, 1) := zk_of (zk_r (zk_l (zk_r (zk_l (zk_l zdX3_cut_14)))))
theorem dX3_cut_24 : decode cX3_cut 24 = .ok (.iaload, 1) := zk_of (zk_l (zk_r (zk_r (zk_l (zk_l zdX3_cut_14)))))
theorem dX3_cut_25 : decode cX3_cut 25 = .ok (.aload_n 0, 1) := zk_of (zk_r (zk_r (zk_r (zk_l (zk_l zdX3_cut_14)))))
theorem dX3_cut_26 : decode cX3_cut 26 = .ok (.getfield 18, 3) := zk_of (zk_l (zk_l (zk_l (zk_r (zk_l zdX3_cut_14)))))
theorem dX3_cut_29 : decode cX3_cut 29 = .ok (.iload_n 1, 1) := zk_of (zk_r (zk_l (zk_l (zk_r (zk_l zdX3_cut_14)))))
theorem dX3_cut_30 : decode cX3_cut 30 = .ok (.iaload, 1) := zk_of (zk_l (zk_r (zk_l (zk_r (zk_l zdX3_cut_14)))))
theorem dX3_cut_31 : decode cX3_cut 31 = .ok (.invokestatic 116, 3) := zk_of (zk_r (zk_r (zk_l (zk_r (zk_l zdX3_cut_14)))))
theorem dX3_cut_34 : decode cX3_cut 34 = .ok (.istore_n 3, 1) := zk_of (zk_l (zk_l (zk_r (zk_r (zk_l zdX3_cut_14)))))
theorem dX3_cut_35 : decode cX3_cut 35 = .ok (.aload_n 0, 1) := zk_of (zk_r (zk_l (zk_r (zk_r (zk_l zdX3_cut_14)))))
theorem dX3_cut_36 : decode cX3_cut 36 = .ok (.getfield 39, 3) := zk_of (zk_l (zk_r (zk_r (zk_r (zk_l zdX3_cut_14)))))
theorem dX3_cut_39 : decode cX3_cut 39 = .ok (.iload_n 2, 1) := zk_of (zk_r (zk_r (zk_r (zk_r (zk_l zdX3_cut_14)))))
theorem dX3_cut_40 : decode cX3_cut 40 = .ok (.iload_n 3, 1) := zk_of (zk_l (zk_l (zk_l (zk_l (zk_r zdX3_cut_14)))))
theorem dX3_cut_41 : decode cX3_cut 41 = .ok (.ifCond .eq 12, 3) := zk_of (zk_r (zk_l (zk_l (zk_l (zk_r zdX3_cut_14)))))
theorem dX3_cut_53 : decode cX3_cut 53 = .ok (.aload_n 0, 1) := zk_of (zk_l (zk_r (zk_l (zk_l (zk_r zdX3_cut_14)))))
theorem dX3_cut_54 : decode cX3_cut 54 = .ok (.getfield 39, 3) := zk_of (zk_r (zk_r (zk_l (zk_l (zk_r zdX3_cut_14)))))
theorem dX3_cut_57 : decode cX3_cut 57 = .ok (.iload_n 2, 1) := zk_of (zk_l (zk_l (zk_r (zk_l (zk_r zdX3_cut_14)))))
theorem dX3_cut_58 : decode cX3_cut 58 = .ok (.iaload, 1) := zk_of (zk_r (zk_l (zk_r (zk_l (zk_r zdX3_cut_14)))))
theorem dX3_cut_59 : decode cX3_cut 59 = .ok (.aload_n 0, 1) := zk_of (zk_l (zk_r (zk_r (zk_l (zk_r zdX3_cut_14)))))
theorem dX3_cut_60 : decode cX3_cut 60 = .ok (.getfield 15, 3) := zk_of (zk_r (zk_r (zk_r (zk_l (zk_r zdX3_cut_14)))))
theorem dX3_cut_63 : decode cX3_cut 63 = .ok (.iload_n 1, 1) := zk_of (zk_l (zk_l (zk_l (zk_r (zk_r zdX3_cut_14)))))
theorem dX3_cut_64 : decode cX3_cut 64 = .ok (.iaload, 1) := zk_of (zk_r (zk_l (zk_l (zk_r (zk_r zdX3_cut_14)))))
theorem dX3_cut_65 : decode cX3_cut 65 = .ok (.invokestatic 120, 3) := zk_of (zk_l (zk_r (zk_l (zk_r (zk_r zdX3_cut_14)))))
theorem dX3_cut_44 : decode cX3_cut 44 = .ok (.aload_n 0, 1) := zk_of (zk_r (zk_r (zk_l (zk_r (zk_r zdX3_cut_14)))))
theorem dX3_cut_45 : decode cX3_cut 45 = .ok (.getfield 15, 3) := zk_of (zk_l (zk_l (zk_r (zk_r (zk_r zdX3_cut_14)))))
theorem dX3_cut_48 : decode cX3_cut 48 = .ok (.iload_n 1, 1) := zk_of (zk_r (zk_l (zk_r (zk_r (zk_r zdX3_cut_14)))))
theorem dX3_cut_49 : decode cX3_cut 49 = .ok (.iaload, 1) := zk_of (zk_l (zk_r (zk_r (zk_r (zk_r zdX3_cut_14)))))
theorem dX3_cut_50 : decode cX3_cut 50 = .ok (.goto 18, 3) := zk_of (zk_r (zk_r (zk_r (zk_r (zk_r zdX3_cut_14)))))
set_option maxRecDepth 20000 in
theorem ggX3_cut_X6_apart : GoodIn wsX3_cut wsX6_apart := goodIn_r _ [16] rfl (by decide +kernel)
set_option maxRecDepth 20000 in
theorem gX3_cut_X6_apart : GoodIn wsX3_cut (va_wsS RX3 116 yX6_apart wsX6_apart) := goodIn_app (goodIn_of _ (by decide +kernel)) ggX3_cut_X6_apart
/-- HissHorn$Looks.cut(I)V of cell 10 -/
def rmX3_cut_10 : Room := { frames := 1, cells := 0, slots := 0, locals := 23 }
theorem hX3_cut_10_X3 : ∀ w ∈ u_ws RX3 TX3 19, w ∈ wsX3_cut := fun w h => (List.mem_cons_of_mem _ (List.mem_append_right _ h))
theorem mX3_cut_10_1 : Cond.fieldLink RX3 9 "HissHorn$Looks" "part" "[I" ∈ wsX3_cut := (List.mem_cons_of_mem _ (List.mem_append_left _ (List.mem_of_getElem? (i := 0) rfl)))
theorem mX3_cut_10_2 : Cond.fieldLink RX3 39 "HissHorn$Looks" "rowLow" "[I" ∈ wsX3_cut := (List.mem_cons_of_mem _ (List.mem_append_left _ (List.mem_of_getElem? (i := 1) rfl)))
theorem mX3_cut_10_3 : Cond.fieldLink RX3 42 "HissHorn$Looks" "rowHigh" "[I" ∈ wsX3_cut := (List.mem_cons_of_mem _ (List.mem_append_left _ (List.mem_of_getElem? (i := 2) rfl)))
theorem mX3_cut_10_4 : Cond.fieldLink RX3 15 "HissHorn$Looks" "from" "[I" ∈ wsX3_cut := (List.mem_cons_of_mem _ (List.mem_append_left _ (List.mem_of_getElem? (i := 3) rfl)))
theorem mX3_cut_10_5 : Cond.fieldLink RX3 18 "HissHorn$Looks" "to" "[I" ∈ wsX3_cut := (List.mem_cons_of_mem _ (List.mem_append_left _ (List.mem_of_getElem? (i := 4) rfl)))
theorem mX3_cut_10_6 : Cond.methodLink RX3 120 Lib.Math.max.name ∈ wsX3_cut := (List.mem_cons_of_mem _ (List.mem_append_left _ (List.mem_of_getElem? (i := 5) rfl)))
theorem mX3_cut_10_7 : Cond.static Lib.Math.max.name ∈ wsX3_cut := (List.mem_cons_of_mem _ (List.mem_append_left _ (List.mem_of_getElem? (i := 6) rfl)))
theorem mX3_cut_10_8 : Cond.initialized "java/lang/Math" ∈ wsX3_cut := (List.mem_cons_of_mem _ (List.mem_append_left _ (List.mem_of_getElem? (i := 7) rfl)))
theorem mX3_cut_10_9 : Cond.code Lib.Math.max.name Lib.Math.max.code 2 (some .int) ∈ wsX3_cut := (List.mem_cons_of_mem _ (List.mem_append_left _ (List.mem_of_getElem? (i := 8) rfl)))
theorem mX3_cut_10_10 : Cond.methodLink RX3 125 Lib.Math.min.name ∈ wsX3_cut := (List.mem_cons_of_mem _ (List.mem_append_left _ (List.mem_of_getElem? (i := 9) rfl)))
theorem mX3_cut_10_11 : Cond.static Lib.Math.min.name ∈ wsX3_cut := (List.mem_cons_of_mem _ (List.mem_append_left _ (List.mem_of_getElem? (i := 10) rfl)))
theorem mX3_cut_10_12 : Cond.code Lib.Math.min.name Lib.Math.min.code 2 (some .int) ∈ wsX3_cut := (List.mem_cons_of_mem _ (List.mem_append_left _ (List.mem_of_getElem? (i := 11) rfl)))
def GX3_cut_10_68 (z1 : Int32) (z2 : Int32) (z3 : Int32) (y0 : Int32) (y1 : Int32) (u : SX) : Option (Int32 × SX) := (gd (inb y1 12) (lt (sA u 57 (upd (u.2.1 57) y1.toNatClampNeg y0)) fun u14 => (if z3 = 0 then (gd (inb z2 12) (gd (inb z1 10) (gd (inb z2 12) (lt (sA u14 58 (upd (u14.2.1 58) z2.toNatClampNeg (if (u14.2.1 50 z1.toNatClampNeg) < (u14.2.1 58 z2.toNatClampNeg) then (u14.2.1 50 z1.toNatClampNeg) else (u14.2.1 58 z2.toNatClampNeg)))) fun u19 => (some (0, u19)))))) else (gd (inb z1 10) (gd (inb z2 12) (lt (sA u14 58 (upd (u14.2.1 58) z2.toNatClampNeg (u14.2.1 50 z1.toNatClampNeg))) fun u23 => (some (0, u23))))))))
def fX3_cut_10 (x1 : Int32) (u : SX) : Option (Int32 × SX) := (gd (inb x1 10) (lt (u.2.1 48 x1.toNatClampNeg) fun v2 => (gd (inb v2 12) (gd (inb v2 12) (gd (inb x1 10) (gd (inb x1 10) ((fX6_apart (u.2.1 57 v2.toNatClampNeg) (u.2.1 58 v2.toNatClampNeg) (u.2.1 49 x1.toNatClampNeg) (u.2.1 50 x1.toNatClampNeg)).bind fun r8 => (if r8 = 0 then (gd (inb v2 12) (gd (inb x1 10) (GX3_cut_10_68 x1 v2 r8 (if (u.2.1 57 v2.toNatClampNeg) < (u.2.1 49 x1.toNatClampNeg) then (u.2.1 49 x1.toNatClampNeg) else (u.2.1 57 v2.toNatClampNeg)) v2 u))) else (gd (inb x1 10) (GX3_cut_10_68 x1 v2 r8 (u.2.1 49 x1.toNatClampNeg) v2 u))))))))))
set_option maxHeartbeats 4000000 in
set_option maxRecDepth 100000 in
theorem wGX3_cut_10_68 {p : Program} {l : Launch} {e : Env} {s : State} {m : MethodId} {args : Array Value} {below : List Frame} {meth : Method} {c : Code} {D : va_G} {cy : Nat → ClassId} {ad st : Nat → Nat} (C : Cx RX3 cX3_cut 4 none wsX3_cut p s m args meth c) (hK : Ky D [(cy 0, .int), (cy 1, .long), (cy 2, .boolean), (cy 3, .byte), (cy 4, .object "HissHorn$Text")] st s) (hJ : JX ad st) {r : Int32} {u' : SX}   (z1 : Int32) (z2 : Int32) (z3 : Int32) (y0 : Int32) (y1 : Int32) (u : SX) (H : Heap) (locs : List Loc) (ls : Array Slot) (h : GX3_cut_10_68 z1 z2 z3 y0 y1 u = some (r, u')) (hP : va_P D vwCl (VX cy ad st u) H) (hS : va_S (Ax (AX ad) s.heap.size) s.heap H locs) (hl : lv_has ls 4 [(0, .ref (ad 10)), (1, .int z1), (2, .int z2), (3, .int z3)]) : W p l e rmX3_cut_10 s m args below meth c H locs 0 0 (MQ below (Qv D (VX cy ad st) (AX ad) s.heap.size r u') args s 0 0 (Ax (AX ad) s.heap.size)) (F0 m 68 ls [.int y0, .int y1, .ref (ad 57)]) := by
  unfold GX3_cut_10_68 at h
  obtain ⟨hg13, h⟩ := gd_some h
  refine tX_57 C hK hP hJ hS hg13 dX3_cut_68 (fun H locs hP hS => ?_)
  obtain ⟨u14, hu15, h⟩ := lt_some h
  rw [← hu15] at hP
  refine lv_aload_n C.1 C.2.1 dX3_cut_69 rfl (lv_at hl 0 rfl) ?_
  refine gX_10_rowHigh C hX3_cut_10_X3 hK hP mX3_cut_10_3 dX3_cut_70 ?_
  refine lv_iload_n C.1 C.2.1 dX3_cut_73 rfl (lv_at hl 2 rfl) ?_
  refine lv_iload_n C.1 C.2.1 dX3_cut_74 rfl (lv_at hl 3 rfl) ?_
  refine lv_if_eq (tgt := 87) C.1 C.2.1 dX3_cut_75 (by decide) (fun c75 => ?_) (fun c75 => ?_)
  · rw [if_pos c75] at h
    refine lv_aload_n C.1 C.2.1 dX3_cut_87 rfl (lv_at hl 0 rfl) ?_
    refine gX_10_rowHigh C hX3_cut_10_X3 hK hP mX3_cut_10_3 dX3_cut_88 ?_
    refine lv_iload_n C.1 C.2.1 dX3_cut_91 rfl (lv_at hl 2 rfl) ?_
    obtain ⟨hg16, h⟩ := gd_some h
    refine lX_58 C hK hP hg16 dX3_cut_92 ?_
    refine lv_aload_n C.1 C.2.1 dX3_cut_93 rfl (lv_at hl 0 rfl) ?_
    refine gX_10_to C hX3_cut_10_X3 hK hP mX3_cut_10_5 dX3_cut_94 ?_
    refine lv_iload_n C.1 C.2.1 dX3_cut_97 rfl (lv_at hl 1 rfl) ?_
    obtain ⟨hg17, h⟩ := gd_some h
    refine lX_50 C hK hP hg17 dX3_cut_98 ?_
    refine va_mmin C.1 C.2.1 (C.2.2.1.trans hl.1.symm) C.2.2.2.2.1 (C.2.2.2.2.2.1 _ mX3_cut_10_10) (C.2.2.2.2.2.1 _ mX3_cut_10_11) (C.2.2.2.2.2.1 _ mX3_cut_10_8) (C.2.2.2.2.2.1 _ mX3_cut_10_12) (Nat.le_of_ble_eq_true rfl) (Nat.le_of_ble_eq_true rfl) (Nat.zero_le _) (Nat.zero_le _) dX3_cut_99 ?_
    obtain ⟨hg18, h⟩ := gd_some h
    refine tX_58 C hK hP hJ hS hg18 dX3_cut_102 (fun H locs hP hS => ?_)
    obtain ⟨u19, hu20, h⟩ := lt_some h
    rw [← hu20] at hP
    cases h
    exact rt_v C hP hS dX3_cut_103
  · rw [if_neg c75] at h
    refine lv_aload_n C.1 C.2.1 dX3_cut_78 rfl (lv_at hl 0 rfl) ?_
    refine gX_10_to C hX3_cut_10_X3 hK hP mX3_cut_10_5 dX3_cut_79 ?_
    refine lv_iload_n C.1 C.2.1 dX3_cut_82 rfl (lv_at hl 1 rfl) ?_
    obtain ⟨hg21, h⟩ := gd_some h
    refine lX_50 C hK hP hg21 dX3_cut_83 ?_
    refine lv_goto (tgt := 102) C.1 C.2.1 dX3_cut_84 (by decide) ?_
    obtain ⟨hg22, h⟩ := gd_some h
    refine tX_58 C hK hP hJ hS hg22 dX3_cut_102 (fun H locs hP hS => ?_)
    obtain ⟨u23, hu24, h⟩ := lt_some h
    rw [← hu24] at hP
    cases h
    exact rt_v C hP hS dX3_cut_103
set_option maxHeartbeats 4000000 in
set_option maxRecDepth 100000 in
theorem wX3_cut_10 {p : Program} {l : Launch} {e : Env} {s : State} {m : MethodId} {args : Array Value} {below : List Frame} {meth : Method} {c : Code} {D : va_G} {cy : Nat → ClassId} {ad st : Nat → Nat} (C : Cx RX3 cX3_cut 4 none wsX3_cut p s m args meth c) (hK : Ky D [(cy 0, .int), (cy 1, .long), (cy 2, .boolean), (cy 3, .byte), (cy 4, .object "HissHorn$Text")] st s) (hJ : JX ad st) (x1 : Int32) {u : SX} {r : Int32} {u' : SX} {H : Heap} {locs : List Loc} {ls : Array Slot} (h : fX3_cut_10 x1 u = some (r, u')) (hP : va_P D vwCl (VX cy ad st u) H) (hS : va_S (Ax (AX ad) s.heap.size) s.heap H locs) (hl : lv_has ls 4 [(0, .ref (ad 10)), (1, .int x1)]) : W p l e rmX3_cut_10 s m args below meth c H locs 0 0 (MQ below (Qv D (VX cy ad st) (AX ad) s.heap.size r u') args s 0 0 (Ax (AX ad) s.heap.size)) (F0 m 0 ls []) := by
  unfold fX3_cut_10 at h
  refine lv_aload_n C.1 C.2.1 dX3_cut_0 rfl (lv_at hl 0 rfl) ?_
  refine gX_10_part C hX3_cut_10_X3 hK hP mX3_cut_10_1 dX3_cut_1 ?_
  refine lv_iload_n C.1 C.2.1 dX3_cut_4 rfl (lv_at hl 1 rfl) ?_
  obtain ⟨hg1, h⟩ := gd_some h
  refine lX_48 C hK hP hg1 dX3_cut_5 ?_
  refine lv_topi (fun v2 hv3 => ?_)
  replace h := lt_e hv3 h
  try dsimp only at h
  refine lv_istore_n (lv' := [(2, .int v2), (0, .ref (ad 10)), (1, .int x1)]) C.1 C.2.1 dX3_cut_6 rfl hl (by decide) rfl (fun ls hl => ?_)
  replace hl := lv_sub (l' := [(0, .ref (ad 10)), (1, .int x1), (2, .int v2)]) hl [1, 2, 0] rfl
  refine lv_aload_n C.1 C.2.1 dX3_cut_7 rfl (lv_at hl 0 rfl) ?_
  refine gX_10_rowLow C hX3_cut_10_X3 hK hP mX3_cut_10_2 dX3_cut_8 ?_
  refine lv_iload_n C.1 C.2.1 dX3_cut_11 rfl (lv_at hl 2 rfl) ?_
  obtain ⟨hg4, h⟩ := gd_some h
  refine lX_57 C hK hP hg4 dX3_cut_12 ?_
  refine lv_aload_n C.1 C.2.1 dX3_cut_13 rfl (lv_at hl 0 rfl) ?_
  refine gX_10_rowHigh C hX3_cut_10_X3 hK hP mX3_cut_10_3 dX3_cut_14 ?_
  refine lv_iload_n C.1 C.2.1 dX3_cut_17 rfl (lv_at hl 2 rfl) ?_
  obtain ⟨hg5, h⟩ := gd_some h
  refine lX_58 C hK hP hg5 dX3_cut_18 ?_
  refine lv_aload_n C.1 C.2.1 dX3_cut_19 rfl (lv_at hl 0 rfl) ?_
  refine gX_10_from C hX3_cut_10_X3 hK hP mX3_cut_10_4 dX3_cut_20 ?_
  refine lv_iload_n C.1 C.2.1 dX3_cut_23 rfl (lv_at hl 1 rfl) ?_
  obtain ⟨hg6, h⟩ := gd_some h
  refine lX_49 C hK hP hg6 dX3_cut_24 ?_
  refine lv_aload_n C.1 C.2.1 dX3_cut_25 rfl (lv_at hl 0 rfl) ?_
  refine gX_10_to C hX3_cut_10_X3 hK hP mX3_cut_10_5 dX3_cut_26 ?_
  refine lv_iload_n C.1 C.2.1 dX3_cut_29 rfl (lv_at hl 1 rfl) ?_
  obtain ⟨hg7, h⟩ := gd_some h
  refine lX_50 C hK hP hg7 dX3_cut_30 ?_
  obtain ⟨r8, hc10, h⟩ := bd_some h
  refine cs_i (As := [.int (u.2.1 57 v2.toNatClampNeg), .int (u.2.1 58 v2.toNatClampNeg), .int (u.2.1 49 x1.toNatClampNeg), .int (u.2.1 50 x1.toNatClampNeg)]) (rest := []) (AX_ge hJ) C hK hP hS (metX6_apart l D cy st _ (u.2.1 57 v2.toNatClampNeg) (u.2.1 58 v2.toNatClampNeg) (u.2.1 49 x1.toNatClampNeg) (u.2.1 50 x1.toNatClampNeg) hc10) (va_cwS 4 C.2.2.2.2.2.1 gX3_cut_X6_apart rfl rfl rfl (by decide +kernel) ⟨(Nat.le_of_ble_eq_true rfl), (Nat.le_of_ble_eq_true rfl)⟩) rfl hl.1 rfl (Nat.le_of_ble_eq_true rfl) dX3_cut_31 ⟨Nat.zero_le _, Nat.zero_le _⟩ (fun H locs hP hS => ?_)
  refine lv_istore_n (lv' := [(3, .int r8), (0, .ref (ad 10)), (1, .int x1), (2, .int v2)]) C.1 C.2.1 dX3_cut_34 rfl hl (by decide) rfl (fun ls hl => ?_)
  replace hl := lv_sub (l' := [(0, .ref (ad 10)), (1, .int x1), (2, .int v2), (3, .int r8)]) hl [1, 2, 3, 0] rfl
  refine lv_aload_n C.1 C.2.1 dX3_cut_35 rfl (lv_at hl 0 rfl) ?_
  refine gX_10_rowLow C hX3_cut_10_X3 hK hP mX3_cut_10_2 dX3_cut_36 ?_
  refine lv_iload_n C.1 C.2.1 dX3_cut_39 rfl (lv_at hl 2 rfl) ?_
  refine lv_iload_n C.1 C.2.1 dX3_cut_40 rfl (lv_at hl 3 rfl) ?_
  refine lv_if_eq (tgt := 53) C.1 C.2.1 dX3_cut_41 (by decide) (fun c41 => ?_) (fun c41 => ?_)
  · rw [if_pos c41] at h
    refine lv_aload_n C.1 C.2.1 dX3_cut_53 rfl (lv_at hl 0 rfl) ?_
    refine gX_10_rowLow C hX3_cut_10_X3 hK hP mX3_cut_10_2 dX3_cut_54 ?_
    refine lv_iload_n C.1 C.2.1 dX3_cut_57 rfl (lv_at hl 2 rfl) ?_
    obtain ⟨hg11, h⟩ := gd_some h
    refine lX_57 C hK hP hg11 dX3_cut_58 ?_
    refine lv_aload_n C.1 C.2.1 dX3_cut_59 rfl (lv_at hl 0 rfl) ?_
    refine gX_10_from C hX3_cut_10_X3 hK hP mX3_cut_10_4 dX3_cut_60 ?_
    refine lv_iload_n C.1 C.2.1 dX3_cut_63 rfl (lv_at hl 1 rfl) ?_
    obtain ⟨hg12, h⟩ := gd_some h
    refine lX_49 C hK hP hg12 dX3_cut_64 ?_
    refine va_mmax C.1 C.2.1 (C.2.2.1.trans hl.1.symm) C.2.2.2.2.1 (C.2.2.2.2.2.1 _ mX3_cut_10_6) (C.2.2.2.2.2.1 _ mX3_cut_10_7) (C.2.2.2.2.2.1 _ mX3_cut_10_8) (C.2.2.2.2.2.1 _ mX3_cut_10_9) (Nat.le_of_ble_eq_true rfl) (Nat.le_of_ble_eq_true rfl) (Nat.zero_le _) (Nat.zero_le _) dX3_cut_65 ?_
    exact wGX3_cut_10_68 C hK hJ _ _ _ _ _ _ _ _ _ h hP hS hl
  · rw [if_neg c41] at h
    refine lv_aload_n C.1 C.2.1 dX3_cut_44 rfl (lv_at hl 0 rfl) ?_
    refine gX_10_from C hX3_cut_10_X3 hK hP mX3_cut_10_4 dX3_cut_45 ?_
    refine lv_iload_n C.1 C.2.1 dX3_cut_48 rfl (lv_at hl 1 rfl) ?_
    obtain ⟨hg25, h⟩ := gd_some h
    refine lX_49 C hK hP hg25 dX3_cut_49 ?_
    refine lv_goto (tgt := 68) C.1 C.2.1 dX3_cut_50 (by decide) ?_
    exact wGX3_cut_10_68 C hK hJ _ _ _ _ _ _ _ _ _ h hP hS hl
theorem metX3_cut_10 (l : Launch) (D : va_G) (cy : Nat → ClassId) (ad st : Nat → Nat) (hJ : JX ad st) (sz : Nat) (x1 : Int32) {u : SX} {r : Int32} {u' : SX} (h : fX3_cut_10 x1 u = some (r, u')) : Met l yX3_cut wsX3_cut rmX3_cut_10 (va_Pc [.ref (ad 10), .int x1] (Px D [(cy 0, .int), (cy 1, .long), (cy 2, .boolean), (cy 3, .byte), (cy 4, .object "HissHorn$Text")] st (VX cy ad st) sz u)) (Qv D (VX cy ad st) (AX ad) sz r u') 0 0 (Ax (AX ad) sz) := by
  refine Met.ofW (cc := cX3_cut) (maxL := 4) (ret := none) (by decide) rfl ?_
  intro p e s m args below meth c s₁ B hml hv
  obtain ⟨rfl, hsz, hP, hK⟩ := hv
  subst hsz
  have C : Cx RX3 cX3_cut 4 none wsX3_cut p s m _ meth c := ⟨B.exec, B.bytes, hml, B.returns, findClass_of_methodNamed B.named, atoms_spec (ws := wsX3_cut) B.pre, B.notSynchronized⟩
  have hl := lv_entry ([.ref (ad 10), .int x1]) (n := 4) (Nat.le_of_ble_eq_true rfl)
  rw [lg_entry_eq]
  exact wX3_cut_10 C hK hJ x1 h hP va_S.rf hl

/-- room of a recursion by its depth -/
def rmX3chooseg (d : Nat) : Room := { frames := 6 + d, cells := 0, slots := 0, locals := 132 + 64 * d }
theorem rmX3chooseg_f (d : Nat) : 6 ≤ (rmX3chooseg d).frames := Nat.le_add_right _ _
theorem rmX3chooseg_l (d : Nat) : 132 ≤ (rmX3chooseg d).locals := Nat.le_add_right _ _
theorem rmX3chooseg_sf (d : Nat) : (rmX3chooseg d).frames + 1 ≤ (rmX3chooseg (d + 1)).frames := Nat.le_refl _
theorem rmX3chooseg_sl (d : Nat) {k : Nat} (h : k ≤ 64) : k + (rmX3chooseg d).locals ≤ (rmX3chooseg (d + 1)).locals := by show k + (132 + 64 * d) ≤ 132 + 64 * (d + 1); omega
def hRX3chooseg (l : Launch) (D : va_G) (cy : Nat → ClassId) (ad st : Nat → Nat) (rc : Nat → Int32 → Int32 → Int32 → Int32 → SX → Option (Int32 × SX)) (dd : Nat) : Prop := (∀ (sz : Nat) (x1 : Int32) (x2 : Int32) (x3 : Int32) (x4 : Int32) (u : SX) (r : Int32) (u' : SX), rc 0 x1 x2 x3 x4 u = some (r, u') → Met l yX3_choose wsX3_choose (rmX3chooseg dd) (va_Pc [.ref (ad 10), .int x1, .int x2, .int x3, .int x4] (Px D [(cy 0, .int), (cy 1, .long), (cy 2, .boolean), (cy 3, .byte), (cy 4, .object "HissHorn$Text")] st (VX cy ad st) sz u)) (Qv D (VX cy ad st) (AX ad) sz r u') 0 0 (Ax (AX ad) sz))

theorem zdX3_choose_156 : (and (and (and (and (and (zk cX3_choose 156 (.aload_n 0) 1) (zk cX3_choose 157 (.iload_n 1) 1)) (and (zk cX3_choose 158 (.iconst 1) 1) (zk cX3_choose 159 (.iadd) 1))) (and (and (zk cX3_choose 160 (.iload_n 2) 1) (zk cX3_choose 161 (.iload_n 3) 1)) (and (zk cX3_choose 162 (.iload 4) 2) (zk cX3_choose 164 (.invokevirtual 112) 3)))) (and (and (and (zk cX3_choose 167 (.return_) 1) (zk cX3_choose 32 (.aload_n 0) 1)) (and (zk cX3_choose 33 (.iload_n 3) 1) (zk cX3_choose 34 (.putfield 103) 3))) (and (and (zk cX3_choose 37 (.aload_n 0) 1) (zk cX3_choose 38 (.iload_n 2) 1)) (and (zk cX3_choose 39 (.putfield 106) 3) (zk cX3_choose 42 (.aload_n 0) 1))))) (and (and (and (and (zk cX3_choose 43 (.iload 4) 2) (zk cX3_choose 45 (.putfield 109) 3)) (and (zk cX3_choose 48 (.return_) 1) (zk cX3_choose 0 (.iload_n 1) 1))) (and (and (zk cX3_choose 1 (.aload_n 0) 1) (zk cX3_choose 2 (.getfield 53) 3)) (and (zk cX3_choose 5 (.if_icmp .lt 44) 3) (zk cX3_choose 49 (.aload_n 0) 1)))) (and (and (and (zk cX3_choose 50 (.iload_n 1) 1) (zk cX3_choose 51 (.invokevirtual 83) 3)) (and (zk cX3_choose 54 (.ifCond .ne 102) 3) (zk cX3_choose 57 (.aload_n 0) 1))) (and (and (zk cX3_choose 58 (.getfield 21) 3) (zk cX3_choose 61 (.iload_n 1) 1)) (and (zk cX3_choose 62 (.iaload) 1) (zk cX3_choose 63 (.iload_n 2) 1)))))) = true := by decide +kernel
theorem dX3_choose_156 : decode cX3_choose 156 = .ok (.aload_n 0, 1) := zk_of (zk_l (zk_l (zk_l (zk_l (zk_l zdX3_choose_156)))))
theorem dX3_choose_157 : decode cX3_choose 157 = .ok (.iload_n 1, 1) := zk_of (zk_r (zk_l (zk_l (zk_l (zk_l zdX3_choose_156)))))
theorem dX3_choose_158 : decode cX3_choose 158 = .ok (.iconst 1, 1) := zk_of (zk_l (zk_r (zk_l (zk_l (zk_l zdX3_choose_156)))))
theorem dX3_choose_159 : decode cX3_choose 159 = .ok (.iadd, 1) := zk_of (zk_r (zk_r (zk_l (zk_l (zk_l zdX3_choose_156)))))
theorem dX3_choose_160 : decode cX3_choose 160 = .ok (.iload_n 2, 1) := zk_of (zk_l (zk_l (zk_r (zk_l (zk_l zdX3_choose_156)))))
theorem dX3_choose_161 : decode cX3_choose 161 = .ok (.iload_n 3, 1) := zk_of (zk_r (zk_l (zk_r (zk_l (zk_l zdX3_choose_156)))))
theorem dX3_choose_162 : decode cX3_choose 162 = .ok (.iload 4, 2) := zk_of (zk_l (zk_r (zk_r (zk_l (zk_l zdX3_choose_156)))))
theorem dX3_choose_164 : decode cX3_choose 164 = .ok (.invokevirtual 112, 3) := zk_of (zk_r (zk_r (zk_r (zk_l (zk_l zdX3_choose_156)))))
theorem dX3_choose_167 : decode cX3_choose 167 = .ok (.return_, 1) := zk_of (zk_l (zk_l (zk_l (zk_r (zk_l zdX3_choose_156)))))
theorem dX3_choose_32 : decode cX3_choose 32 = .ok (.aload_n 0, 1) := zk_of (zk_r (zk_l (zk_l (zk_r (zk_l zdX3_choose_156)))))
theorem dX3_choose_33 : decode cX3_choose 33 = .ok (.iload_n 3, 1) := zk_of (zk_l (zk_r (zk_l (zk_r (zk_l zdX3_choose_156)))))
theorem dX3_choose_34 : decode cX3_choose 34 = .ok (.putfield 103, 3) := zk_of (zk_r (zk_r (zk_l (zk_r (zk_l zdX3_choose_156)))))
theorem dX3_choose_37 : decode cX3_choose 37 = .ok (.aload_n 0, 1) := zk_of (zk_l (zk_l (zk_r (zk_r (zk_l zdX3_choose_156)))))
theorem dX3_choose_38 : decode cX3_choose 38 = .ok (.iload_n 2, 1) := zk_of (zk_r (zk_l (zk_r (zk_r (zk_l zdX3_choose_156)))))
theorem dX3_choose_39 : decode cX3_choose 39 = .ok (.putfield 106, 3) := zk_of (zk_l (zk_r (zk_r (zk_r (zk_l zdX3_choose_156)))))
theorem dX3_choose_42 : decode cX3_choose 42 = .ok (.aload_n 0, 1) := zk_of (zk_r (zk_r (zk_r (zk_r (zk_l zdX3_choose_156)))))
theorem dX3_choose_43 : decode cX3_choose 43 = .ok (.iload 4, 2) := zk_of (zk_l (zk_l (zk_l (zk_l (zk_r zdX3_choose_156)))))
theorem dX3_choose_45 : decode cX3_choose 45 = .ok (.putfield 109, 3) := zk_of (zk_r (zk_l (zk_l (zk_l (zk_r zdX3_choose_156)))))
theorem dX3_choose_48 : decode cX3_choose 48 = .ok (.return_, 1) := zk_of (zk_l (zk_r (zk_l (zk_l (zk_r zdX3_choose_156)))))
theorem dX3_choose_0 : decode cX3_choose 0 = .ok (.iload_n 1, 1) := zk_of (zk_r (zk_r (zk_l (zk_l (zk_r zdX3_choose_156)))))
theorem dX3_choose_1 : decode cX3_choose 1 = .ok (.aload_n 0, 1) := zk_of (zk_l (zk_l (zk_r (zk_l (zk_r zdX3_choose_156)))))
theorem dX3_choose_2 : decode cX3_choose 2 = .ok (.getfield 53, 3) := zk_of (zk_r (zk_l (zk_r (zk_l (zk_r zdX3_choose_156)))))
theorem dX3_choose_5 : decode cX3_choose 5 = .ok (.if_icmp .lt 44, 3) := zk_of (zk_l (zk_r (zk_r (zk_l (zk_r zdX3_choose_156)))))
theorem dX3_choose_49 : decode cX3_choose 49 = .ok (.aload_n 0, 1) := zk_of (zk_r (zk_r (zk_r (zk_l (zk_r zdX3_choose_156)))))
theorem dX3_choose_50 : decode cX3_choose 50 = .ok (.iload_n 1, 1) := zk_of (zk_l (zk_l (zk_l (zk_r (zk_r zdX3_choose_156)))))
theorem dX3_choose_51 : decode cX3_choose 51 = .ok (.invokevirtual 83, 3) := zk_of (zk_r (zk_l (zk_l (zk_r (zk_r zdX3_choose_156)))))
theorem dX3_choose_54 : decode cX3_choose 54 = .ok (.ifCond .ne 102, 3) := zk_of (zk_l (zk_r (zk_l (zk_r (zk_r zdX3_choose_156)))))
theorem dX3_choose_57 : decode cX3_choose 57 = .ok (.aload_n 0, 1) := zk_of (zk_r (zk_r (zk_l (zk_r (zk_r zdX3_choose_156)))))
theorem dX3_choose_58 : decode cX3_choose 58 = .ok (.getfield 21, 3) := zk_of (zk_l (zk_l (zk_r (zk_r (zk_r zdX3_choose_156)))))
theorem dX3_choose_61 : decode cX3_choose 61 = .ok (.iload_n 1, 1) := zk_of (zk_r (zk_l (zk_r (zk_r (zk_r zdX3_choose_156)))))
theorem dX3_choose_62 : decode cX3_choose 62 = .ok (.iaload, 1) := zk_of (zk_l (zk_r (zk_r (zk_r (zk_r zdX3_choose_156)))))
theorem dX3_choose_63 : decode cX3_choose 63 = .ok (.iload_n 2, 1) := zk_of (zk_r (zk_r (zk_r (zk_r (zk_r zdX3_choose_156)))))
set_option maxRecDepth 20000 in
theorem ggX3_choose_X3_choose : GoodIn wsX3_choose wsX3_choose := goodIn_r _ [0, 1, 2, 3, 4, 5, 6, 7, 8, 9, 10, 11, 12, 13, 14, 15, 16, 17, 18, 19, 20, 21, 22, 23, 24, 25, 26, 27, 28, 29, 30, 31, 32, 33, 34, 35, 36, 37, 38, 39, 40, 41, 42, 43, 44, 45, 46, 47, 48, 49, 50, 51, 52, 53, 54, 55, 56, 57, 58, 59, 60, 61, 62, 63, 64, 65, 66, 67, 68, 69, 70, 71, 72, 73, 74, 75, 76, 77, 78, 79, 80, 81, 82, 83, 84, 85, 86, 87, 88, 89, 90, 91, 92, 93, 94, 95, 96, 97, 98, 99, 100, 101, 102, 103, 104, 105, 106, 107, 108, 109, 110, 111, 112, 113, 114, 115, 116, 117, 118, 119, 120, 121, 122, 123, 124, 125, 126, 127, 128, 129, 130, 131, 132, 133, 134, 135, 136, 137, 138, 139, 140, 141, 142, 143, 144, 145, 146, 147, 148, 149, 150, 151, 152] rfl (by decide +kernel)
set_option maxRecDepth 20000 in
theorem gX3_choose_X3_choose : GoodIn wsX3_choose (wsV RX3 112 RX3 yX3_choose wsX3_choose) := goodIn_app (goodIn_of _ (by decide +kernel)) ggX3_choose_X3_choose
set_option maxRecDepth 20000 in
theorem ggX3_choose_X3_isDone : GoodIn wsX3_choose wsX3_isDone := goodIn_r _ [13, 14, 99, 100, 101, 102, 103, 104, 105, 106, 107, 108, 109, 110, 111, 112, 113, 114, 115, 116, 117] rfl (by decide +kernel)
set_option maxRecDepth 20000 in
theorem gX3_choose_X3_isDone : GoodIn wsX3_choose (wsV RX3 83 RX3 yX3_isDone wsX3_isDone) := goodIn_app (goodIn_of _ (by decide +kernel)) ggX3_choose_X3_isDone
theorem zdX3_choose_64 : (and (and (and (and (and (zk cX3_choose 64 (.if_icmp .gt 92) 3) (zk cX3_choose 67 (.aload_n 0) 1)) (and (zk cX3_choose 68 (.getfield 9) 3) (zk cX3_choose 71 (.iload_n 1) 1))) (and (and (zk cX3_choose 72 (.iaload) 1) (zk cX3_choose 73 (.istore 5) 2)) (and (zk cX3_choose 75 (.aload_n 0) 1) (zk cX3_choose 76 (.getfield 39) 3)))) (and (and (and (zk cX3_choose 79 (.iload 5) 2) (zk cX3_choose 81 (.iaload) 1)) (and (zk cX3_choose 82 (.istore 6) 2) (zk cX3_choose 84 (.aload_n 0) 1))) (and (and (zk cX3_choose 85 (.getfield 42) 3) (zk cX3_choose 88 (.iload 5) 2)) (and (zk cX3_choose 90 (.iaload) 1) (zk cX3_choose 91 (.istore 7) 2))))) (and (and (and (and (zk cX3_choose 93 (.aload_n 0) 1) (zk cX3_choose 94 (.iload 5) 2)) (and (zk cX3_choose 96 (.invokevirtual 96) 3) (zk cX3_choose 99 (.istore 8) 2))) (and (and (zk cX3_choose 101 (.aload_n 0) 1) (zk cX3_choose 102 (.iload_n 1) 1)) (and (zk cX3_choose 103 (.invokevirtual 100) 3) (zk cX3_choose 106 (.aload_n 0) 1)))) (and (and (and (zk cX3_choose 107 (.iload_n 1) 1) (zk cX3_choose 108 (.iconst 1) 1)) (and (zk cX3_choose 109 (.iadd) 1) (zk cX3_choose 110 (.iload_n 2) 1))) (and (and (zk cX3_choose 111 (.aload_n 0) 1) (zk cX3_choose 112 (.getfield 21) 3)) (and (zk cX3_choose 115 (.iload_n 1) 1) (zk cX3_choose 116 (.iaload) 1)))))) = true := by decide +kernel
theorem dX3_choose_64 : decode cX3_choose 64 = .ok (.if_icmp .gt 92, 3) := zk_of (zk_l (zk_l (zk_l (zk_l (zk_l zdX3_choose_64)))))
theorem dX3_choose_67 : decode cX3_choose 67 = .ok (.aload_n 0, 1) := zk_of (zk_r (zk_l (zk_l (zk_l (zk_l zdX3_choose_64)))))
theorem dX3_choose_68 : decode cX3_choose 68 = .ok (.getfield 9, 3) := zk_of (zk_l (zk_r (zk_l (zk_l (zk_l zdX3_choose_64)))))
theorem dX3_choose_71 : decode cX3_choose 71 = .ok (.iload_n 1, 1) := zk_of (zk_r (zk_r (zk_l (zk_l (zk_l zdX3_choose_64)))))
theorem dX3_choose_72 : decode cX3_choose 72 = .ok (.iaload, 1) := zk_of (zk_l (zk_l (zk_r (zk_l (zk_l zdX3_choose_64)))))
theorem dX3_choose_73 : decode cX3_choose 73 = .ok (.istore 5, 2) := zk_of (zk_r (zk_l (zk_r (zk_l (zk_l zdX3_choose_64)))))
theorem dX3_choose_75 : decode cX3_choose 75 = .ok (.aload_n 0, 1) := zk_of (zk_l (zk_r (zk_r (zk_l (zk_l zdX3_choose_64)))))
theorem dX3_choose_76 : decode cX3_choose 76 = .ok (.getfield 39, 3) := zk_of (zk_r (zk_r (zk_r (zk_l (zk_l zdX3_choose_64)))))
theorem dX3_choose_79 : decode cX3_choose 79 = .ok (.iload 5, 2) := zk_of (zk_l (zk_l (zk_l (zk_r (zk_l zdX3_choose_64)))))
theorem dX3_choose_81 : decode cX3_choose 81 = .ok (.iaload, 1) := zk_of (zk_r (zk_l (zk_l (zk_r (zk_l zdX3_choose_64)))))
theorem dX3_choose_82 : decode cX3_choose 82 = .ok (.istore 6, 2) := zk_of (zk_l (zk_r (zk_l (zk_r (zk_l zdX3_choose_64)))))
theorem dX3_choose_84 : decode cX3_choose 84 = .ok (.aload_n 0, 1) := zk_of (zk_r (zk_r (zk_l (zk_r (zk_l zdX3_choose_64)))))
theorem dX3_choose_85 : decode cX3_choose 85 = .ok (.getfield 42, 3) := zk_of (zk_l (zk_l (zk_r (zk_r (zk_l zdX3_choose_64)))))
theorem dX3_choose_88 : decode cX3_choose 88 = .ok (.iload 5, 2) := zk_of (zk_r (zk_l (zk_r (zk_r (zk_l zdX3_choose_64)))))
theorem dX3_choose_90 : decode cX3_choose 90 = .ok (.iaload, 1) := zk_of (zk_l (zk_r (zk_r (zk_r (zk_l zdX3_choose_64)))))
theorem dX3_choose_91 : decode cX3_choose 91 = .ok (.istore 7, 2) := zk_of (zk_r (zk_r (zk_r (zk_r (zk_l zdX3_choose_64)))))
theorem dX3_choose_93 : decode cX3_choose 93 = .ok (.aload_n 0, 1) := zk_of (zk_l (zk_l (zk_l (zk_l (zk_r zdX3_choose_64)))))
theorem dX3_choose_94 : decode cX3_choose 94 = .ok (.iload 5, 2) := zk_of (zk_r (zk_l (zk_l (zk_l (zk_r zdX3_choose_64)))))
theorem dX3_choose_96 : decode cX3_choose 96 = .ok (.invokevirtual 96, 3) := zk_of (zk_l (zk_r (zk_l (zk_l (zk_r zdX3_choose_64)))))
theorem dX3_choose_99 : decode cX3_choose 99 = .ok (.istore 8, 2) := zk_of (zk_r (zk_r (zk_l (zk_l (zk_r zdX3_choose_64)))))
theorem dX3_choose_101 : decode cX3_choose 101 = .ok (.aload_n 0, 1) := zk_of (zk_l (zk_l (zk_r (zk_l (zk_r zdX3_choose_64)))))
theorem dX3_choose_102 : decode cX3_choose 102 = .ok (.iload_n 1, 1) := zk_of (zk_r (zk_l (zk_r (zk_l (zk_r zdX3_choose_64)))))
theorem dX3_choose_103 : decode cX3_choose 103 = .ok (.invokevirtual 100, 3) := zk_of (zk_l (zk_r (zk_r (zk_l (zk_r zdX3_choose_64)))))
theorem dX3_choose_106 : decode cX3_choose 106 = .ok (.aload_n 0, 1) := zk_of (zk_r (zk_r (zk_r (zk_l (zk_r zdX3_choose_64)))))
theorem dX3_choose_107 : decode cX3_choose 107 = .ok (.iload_n 1, 1) := zk_of (zk_l (zk_l (zk_l (zk_r (zk_r zdX3_choose_64)))))
theorem dX3_choose_108 : decode cX3_choose 108 = .ok (.iconst 1, 1) := zk_of (zk_r (zk_l (zk_l (zk_r (zk_r zdX3_choose_64)))))
theorem dX3_choose_109 : decode cX3_choose 109 = .ok (.iadd, 1) := zk_of (zk_l (zk_r (zk_l (zk_r (zk_r zdX3_choose_64)))))
theorem dX3_choose_110 : decode cX3_choose 110 = .ok (.iload_n 2, 1) := zk_of (zk_r (zk_r (zk_l (zk_r (zk_r zdX3_choose_64)))))
theorem dX3_choose_111 : decode cX3_choose 111 = .ok (.aload_n 0, 1) := zk_of (zk_l (zk_l (zk_r (zk_r (zk_r zdX3_choose_64)))))
theorem dX3_choose_112 : decode cX3_choose 112 = .ok (.getfield 21, 3) := zk_of (zk_r (zk_l (zk_r (zk_r (zk_r zdX3_choose_64)))))
theorem dX3_choose_115 : decode cX3_choose 115 = .ok (.iload_n 1, 1) := zk_of (zk_l (zk_r (zk_r (zk_r (zk_r zdX3_choose_64)))))
theorem dX3_choose_116 : decode cX3_choose 116 = .ok (.iaload, 1) := zk_of (zk_r (zk_r (zk_r (zk_r (zk_r zdX3_choose_64)))))
set_option maxRecDepth 20000 in
theorem ggX3_choose_X3_rowSpread : GoodIn wsX3_choose wsX3_rowSpread := goodIn_r _ [18, 7, 8, 19, 20, 21, 22, 23, 24, 25, 26, 27, 28, 29, 30, 31, 32, 33, 34, 35, 36, 37, 38, 39, 40, 41, 42, 43, 44, 45, 46, 47, 48, 49, 50, 51, 52, 53, 54, 55, 56, 57, 58, 59, 60, 61, 62, 63, 64, 65, 66, 67, 68, 69, 70, 71, 72, 73, 74, 75, 76, 77, 78, 79, 99, 100, 101, 102, 103, 104, 105, 106, 107, 108, 109, 110, 111, 112, 113, 114, 115, 116, 117, 118, 119, 120, 121, 122, 123, 124, 125, 126, 127, 128, 129, 130, 131, 132, 133, 134, 135, 136, 137, 138, 139, 140, 141, 142, 143, 144, 145, 146, 147, 148, 149, 150, 151, 152] rfl (by decide +kernel)
set_option maxRecDepth 20000 in
theorem gX3_choose_X3_rowSpread : GoodIn wsX3_choose (wsV RX3 96 RX3 yX3_rowSpread wsX3_rowSpread) := goodIn_app (goodIn_of _ (by decide +kernel)) ggX3_choose_X3_rowSpread
set_option maxRecDepth 20000 in
theorem ggX3_choose_X3_cut : GoodIn wsX3_choose wsX3_cut := goodIn_r _ [83, 6, 7, 8, 84, 85, 86, 87, 66, 88, 89, 90, 91, 92, 93, 94, 95, 99, 100, 101, 102, 103, 104, 105, 106, 107, 108, 109, 110, 111, 112, 113, 114, 115, 116, 117] rfl (by decide +kernel)
set_option maxRecDepth 20000 in
theorem gX3_choose_X3_cut : GoodIn wsX3_choose (wsV RX3 100 RX3 yX3_cut wsX3_cut) := goodIn_app (goodIn_of _ (by decide +kernel)) ggX3_choose_X3_cut
theorem zdX3_choose_117 : (and (and (and (and (and (zk cX3_choose 117 (.isub) 1) (zk cX3_choose 118 (.iload_n 3) 1)) (and (zk cX3_choose 119 (.aload_n 0) 1) (zk cX3_choose 120 (.iload 5) 2))) (and (and (zk cX3_choose 122 (.invokevirtual 96) 3) (zk cX3_choose 125 (.iadd) 1)) (and (zk cX3_choose 126 (.iload 8) 2) (zk cX3_choose 128 (.isub) 1)))) (and (and (and (zk cX3_choose 129 (.iload 4) 2) (zk cX3_choose 131 (.iconst 1) 1)) (and (zk cX3_choose 132 (.iload_n 1) 1) (zk cX3_choose 133 (.ishl) 1))) (and (and (zk cX3_choose 134 (.ior) 1) (zk cX3_choose 135 (.invokevirtual 112) 3)) (and (zk cX3_choose 138 (.aload_n 0) 1) (zk cX3_choose 139 (.getfield 39) 3))))) (and (and (and (and (zk cX3_choose 142 (.iload 5) 2) (zk cX3_choose 144 (.iload 6) 2)) (and (zk cX3_choose 146 (.iastore) 1) (zk cX3_choose 147 (.aload_n 0) 1))) (and (and (zk cX3_choose 148 (.getfield 42) 3) (zk cX3_choose 151 (.iload 5) 2)) (and (zk cX3_choose 153 (.iload 7) 2) (zk cX3_choose 155 (.iastore) 1)))) (and (and (and (zk cX3_choose 8 (.iload_n 3) 1) (zk cX3_choose 9 (.aload_n 0) 1)) (and (zk cX3_choose 10 (.getfield 103) 3) (zk cX3_choose 13 (.if_icmp .lt 19) 3))) (and (and (zk cX3_choose 16 (.iload_n 3) 1) (zk cX3_choose 17 (.aload_n 0) 1)) (and (zk cX3_choose 18 (.getfield 103) 3) (zk cX3_choose 21 (.if_icmp .ne 27) 3)))))) = true := by decide +kernel
theorem dX3_choose_117 : decode cX3_choose 117 = .ok (.isub, 1) := zk_of (zk_l (zk_l (zk_l (zk_l (zk_l zdX3_choose_117)))))
theorem dX3_choose_118 : decode cX3_choose 118 = .ok (.iload_n 3, 1) := zk_of (zk_r (zk_l (zk_l (zk_l (zk_l zdX3_choose_117)))))
theorem dX3_choose_119 : decode cX3_choose 119 = .ok (.aload_n 0, 1) := zk_of (zk_l (zk_r (zk_l (zk_l (zk_l zdX3_choose_117)))))
theorem dX3_choose_120 : decode cX3_choose 120 = .ok (.iload 5, 2) := zk_of (zk_r (zk_r (zk_l (zk_l (zk_l zdX3_choose_117)))))
theorem dX3_choose_122 : decode cX3_choose 122 = .ok (.invokevirtual 96, 3) := zk_of (zk_l (zk_l (zk_r (zk_l (zk_l zdX3_choose_117)))))
theorem dX3_choose_125 : decode cX3_choose 125 = .ok (.iadd, 1) := zk_of (zk_r (zk_l (zk_r (zk_l (zk_l zdX3_choose_117)))))
theorem dX3_choose_126 : decode cX3_choose 126 = .ok (.iload 8, 2) := zk_of (zk_l (zk_r (zk_r (zk_l (zk_l zdX3_choose_117)))))
theorem dX3_choose_128 : decode cX3_choose 128 = .ok (.isub, 1) := zk_of (zk_r (zk_r (zk_r (zk_l (zk_l zdX3_choose_117)))))
theorem dX3_choose_129 : decode cX3_choose 129 = .ok (.iload 4, 2) := zk_of (zk_l (zk_l (zk_l (zk_r (zk_l zdX3_choose_117)))))
theorem dX3_choose_131 : decode cX3_choose 131 = .ok (.iconst 1, 1) := zk_of (zk_r (zk_l (zk_l (zk_r (zk_l zdX3_choose_117)))))
theorem dX3_choose_132 : decode cX3_choose 132 = .ok (.iload_n 1, 1) := zk_of (zk_l (zk_r (zk_l (zk_r (zk_l zdX3_choose_117)))))
theorem dX3_choose_133 : decode cX3_choose 133 = .ok (.ishl, 1) := zk_of (zk_r (zk_r (zk_l (zk_r (zk_l zdX3_choose_117)))))
theorem dX3_choose_134 : decode cX3_choose 134 = .ok (.ior, 1) := zk_of (zk_l (zk_l (zk_r (zk_r (zk_l zdX3_choose_117)))))
theorem dX3_choose_135 : decode cX3_choose 135 = .ok (.invokevirtual 112, 3) := zk_of (zk_r (zk_l (zk_r (zk_r (zk_l zdX3_choose_117)))))
theorem dX3_choose_138 : decode cX3_choose 138 = .ok (.aload_n 0, 1) := zk_of (zk_l (zk_r (zk_r (zk_r (zk_l zdX3_choose_117)))))
theorem dX3_choose_139 : decode cX3_choose 139 = .ok (.getfield 39, 3) := zk_of (zk_r (zk_r (zk_r (zk_r (zk_l zdX3_choose_117)))))
theorem dX3_choose_142 : decode cX3_choose 142 = .ok (.iload 5, 2) := zk_of (zk_l (zk_l (zk_l (zk_l (zk_r zdX3_choose_117)))))
theorem dX3_choose_144 : decode cX3_choose 144 = .ok (.iload 6, 2) := zk_of (zk_r (zk_l (zk_l (zk_l (zk_r zdX3_choose_117)))))
theorem dX3_choose_146 : decode cX3_choose 146 = .ok (.iastore, 1) := zk_of (zk_l (zk_r (zk_l (zk_l (zk_r zdX3_choose_117)))))
theorem dX3_choose_147 : decode cX3_choose 147 = .ok (.aload_n 0, 1) := zk_of (zk_r (zk_r (zk_l (zk_l (zk_r zdX3_choose_117)))))
theorem dX3_choose_148 : decode cX3_choose 148 = .ok (.getfield 42, 3) := zk_of (zk_l (zk_l (zk_r (zk_l (zk_r zdX3_choose_117)))))
theorem dX3_choose_151 : decode cX3_choose 151 = .ok (.iload 5, 2) := zk_of (zk_r (zk_l (zk_r (zk_l (zk_r zdX3_choose_117)))))
theorem dX3_choose_153 : decode cX3_choose 153 = .ok (.iload 7, 2) := zk_of (zk_l (zk_r (zk_r (zk_l (zk_r zdX3_choose_117)))))
theorem dX3_choose_155 : decode cX3_choose 155 = .ok (.iastore, 1) := zk_of (zk_r (zk_r (zk_r (zk_l (zk_r zdX3_choose_117)))))
theorem dX3_choose_8 : decode cX3_choose 8 = .ok (.iload_n 3, 1) := zk_of (zk_l (zk_l (zk_l (zk_r (zk_r zdX3_choose_117)))))
theorem dX3_choose_9 : decode cX3_choose 9 = .ok (.aload_n 0, 1) := zk_of (zk_r (zk_l (zk_l (zk_r (zk_r zdX3_choose_117)))))
theorem dX3_choose_10 : decode cX3_choose 10 = .ok (.getfield 103, 3) := zk_of (zk_l (zk_r (zk_l (zk_r (zk_r zdX3_choose_117)))))
theorem dX3_choose_13 : decode cX3_choose 13 = .ok (.if_icmp .lt 19, 3) := zk_of (zk_r (zk_r (zk_l (zk_r (zk_r zdX3_choose_117)))))
theorem dX3_choose_16 : decode cX3_choose 16 = .ok (.iload_n 3, 1) := zk_of (zk_l (zk_l (zk_r (zk_r (zk_r zdX3_choose_117)))))
theorem dX3_choose_17 : decode cX3_choose 17 = .ok (.aload_n 0, 1) := zk_of (zk_r (zk_l (zk_r (zk_r (zk_r zdX3_choose_117)))))
theorem dX3_choose_18 : decode cX3_choose 18 = .ok (.getfield 103, 3) := zk_of (zk_l (zk_r (zk_r (zk_r (zk_r zdX3_choose_117)))))
theorem dX3_choose_21 : decode cX3_choose 21 = .ok (.if_icmp .ne 27, 3) := zk_of (zk_r (zk_r (zk_r (zk_r (zk_r zdX3_choose_117)))))
theorem zdX3_choose_24 : (and (and (zk cX3_choose 24 (.iload_n 2) 1) (zk cX3_choose 25 (.aload_n 0) 1)) (and (zk cX3_choose 26 (.getfield 106) 3) (zk cX3_choose 29 (.if_icmp .le 19) 3))) = true := by decide +kernel
theorem dX3_choose_24 : decode cX3_choose 24 = .ok (.iload_n 2, 1) := zk_of (zk_l (zk_l zdX3_choose_24))
theorem dX3_choose_25 : decode cX3_choose 25 = .ok (.aload_n 0, 1) := zk_of (zk_r (zk_l zdX3_choose_24))
theorem dX3_choose_26 : decode cX3_choose 26 = .ok (.getfield 106, 3) := zk_of (zk_l (zk_r zdX3_choose_24))
theorem dX3_choose_29 : decode cX3_choose 29 = .ok (.if_icmp .le 19, 3) := zk_of (zk_r (zk_r zdX3_choose_24))
/-- HissHorn$Looks.choose(IIII)V of cell 10 -/
theorem hX3_choose_10_X3 : ∀ w ∈ u_ws RX3 TX3 19, w ∈ wsX3_choose := fun w h => (List.mem_cons_of_mem _ (List.mem_append_left _ (List.mem_append_left _ (List.mem_append_left _ (List.mem_append_left _ (List.mem_append_right _ h))))))
theorem mX3_choose_10_1 : Cond.fieldLink RX3 53 "HissHorn$Looks" "size" "I" ∈ wsX3_choose := (List.mem_cons_of_mem _ (List.mem_append_left _ (List.mem_append_left _ (List.mem_append_left _ (List.mem_append_left _ (List.mem_append_left _ (List.mem_append_left _ (List.mem_of_getElem? (i := 0) rfl))))))))
def GX3_choose_10_156 (rc : Nat → Int32 → Int32 → Int32 → Int32 → SX → Option (Int32 × SX)) (z1 : Int32) (z2 : Int32) (z3 : Int32) (z4 : Int32) (u : SX) : Option (Int32 × SX) := ((rc 0 (z1 + 1) z2 z3 z4 u).bind fun q => match q with | (r4, u5) => (some (0, u5)))
theorem mX3_choose_10_2 : Cond.fieldLink RX3 21 "HissHorn$Looks" "cost" "[I" ∈ wsX3_choose := (List.mem_cons_of_mem _ (List.mem_append_left _ (List.mem_append_left _ (List.mem_append_left _ (List.mem_append_left _ (List.mem_append_left _ (List.mem_append_left _ (List.mem_of_getElem? (i := 4) rfl))))))))
theorem mX3_choose_10_3 : Cond.fieldLink RX3 9 "HissHorn$Looks" "part" "[I" ∈ wsX3_choose := (List.mem_cons_of_mem _ (List.mem_append_left _ (List.mem_append_left _ (List.mem_append_left _ (List.mem_append_left _ (List.mem_append_left _ (List.mem_append_left _ (List.mem_of_getElem? (i := 5) rfl))))))))
theorem mX3_choose_10_4 : Cond.fieldLink RX3 39 "HissHorn$Looks" "rowLow" "[I" ∈ wsX3_choose := (List.mem_cons_of_mem _ (List.mem_append_left _ (List.mem_append_left _ (List.mem_append_left _ (List.mem_append_left _ (List.mem_append_left _ (List.mem_append_left _ (List.mem_of_getElem? (i := 6) rfl))))))))
theorem mX3_choose_10_5 : Cond.fieldLink RX3 42 "HissHorn$Looks" "rowHigh" "[I" ∈ wsX3_choose := (List.mem_cons_of_mem _ (List.mem_append_left _ (List.mem_append_left _ (List.mem_append_left _ (List.mem_append_left _ (List.mem_append_left _ (List.mem_append_left _ (List.mem_of_getElem? (i := 7) rfl))))))))
theorem mX3_choose_10_6 : Cond.fieldLink RX3 103 "HissHorn$Looks" "bestWidth" "I" ∈ wsX3_choose := (List.mem_cons_of_mem _ (List.mem_append_left _ (List.mem_append_left _ (List.mem_append_left _ (List.mem_append_left _ (List.mem_append_left _ (List.mem_append_left _ (List.mem_of_getElem? (i := 1) rfl))))))))
theorem mX3_choose_10_7 : Cond.fieldLink RX3 106 "HissHorn$Looks" "bestCoin" "I" ∈ wsX3_choose := (List.mem_cons_of_mem _ (List.mem_append_left _ (List.mem_append_left _ (List.mem_append_left _ (List.mem_append_left _ (List.mem_append_left _ (List.mem_append_left _ (List.mem_of_getElem? (i := 2) rfl))))))))
theorem mX3_choose_10_8 : Cond.fieldLink RX3 109 "HissHorn$Looks" "bestBits" "I" ∈ wsX3_choose := (List.mem_cons_of_mem _ (List.mem_append_left _ (List.mem_append_left _ (List.mem_append_left _ (List.mem_append_left _ (List.mem_append_left _ (List.mem_append_left _ (List.mem_of_getElem? (i := 3) rfl))))))))
def GX3_choose_10_32 (rc : Nat → Int32 → Int32 → Int32 → Int32 → SX → Option (Int32 × SX)) (z2 : Int32) (z3 : Int32) (z4 : Int32) (u : SX) : Option (Int32 × SX) := (lt (sI u 31 z3) fun u36 => (lt (sI u36 34 z2) fun u38 => (lt (sI u38 30 z4) fun u40 => (some (0, u40)))))
def fX3_choose_10 (rc : Nat → Int32 → Int32 → Int32 → Int32 → SX → Option (Int32 × SX)) (x1 : Int32) (x2 : Int32) (x3 : Int32) (x4 : Int32) (u : SX) : Option (Int32 × SX) := (if x1 < (u.1 29) then ((fX3_isDone_10 x1 u).bind fun q => match q with | (r1, u2) => (if r1 = 0 then (gd (inb x1 10) (if x2 < (u2.2.1 51 x1.toNatClampNeg) then (GX3_choose_10_156 rc x1 x2 x3 x4 u2) else (gd (inb x1 10) (lt (u2.2.1 48 x1.toNatClampNeg) fun v9 => (gd (inb v9 12) (lt (u2.2.1 57 v9.toNatClampNeg) fun v12 => (gd (inb v9 12) (lt (u2.2.1 58 v9.toNatClampNeg) fun v15 => ((fX3_rowSpread_10 v9 u2).bind fun q => match q with | (r17, u18) => ((fX3_cut_10 x1 u18).bind fun q => match q with | (r20, u21) => (gd (inb x1 10) ((fX3_rowSpread_10 v9 u21).bind fun q => match q with | (r24, u25) => ((rc 0 (x1 + 1) (x2 - (u21.2.1 51 x1.toNatClampNeg)) ((x3 + r24) - r17) (x4 ||| (1 <<< (x1 &&& 31))) u25).bind fun q => match q with | (r27, u28) => (gd (inb v9 12) (lt (sA u28 57 (upd (u28.2.1 57) v9.toNatClampNeg v12)) fun u31 => (gd (inb v9 12) (lt (sA u31 58 (upd (u31.2.1 58) v9.toNatClampNeg v15)) fun u34 => (GX3_choose_10_156 rc x1 x2 x3 x4 u34)))))))))))))))))) else (GX3_choose_10_156 rc x1 x2 x3 x4 u2))) else (if x3 < (u.1 31) then (GX3_choose_10_32 rc x2 x3 x4 u) else (if x3 = (u.1 31) then (if x2 ≤ (u.1 34) then (some (0, u)) else (GX3_choose_10_32 rc x2 x3 x4 u)) else (some (0, u)))))
set_option maxHeartbeats 4000000 in
set_option maxRecDepth 100000 in
theorem wGX3_choose_10_156 {p : Program} {l : Launch} {e : Env} {s : State} {m : MethodId} {args : Array Value} {below : List Frame} {meth : Method} {c : Code} {D : va_G} {cy : Nat → ClassId} {ad st : Nat → Nat} (C : Cx RX3 cX3_choose 9 none wsX3_choose p s m args meth c) (hK : Ky D [(cy 0, .int), (cy 1, .long), (cy 2, .boolean), (cy 3, .byte), (cy 4, .object "HissHorn$Text")] st s) (hJ : JX ad st) {rc : Nat → Int32 → Int32 → Int32 → Int32 → SX → Option (Int32 × SX)} {dd : Nat} (hrc : hRX3chooseg l D cy ad st rc dd) {r : Int32} {u' : SX}   (z1 : Int32) (z2 : Int32) (z3 : Int32) (z4 : Int32) (u : SX) (H : Heap) (locs : List Loc) (ls : Array Slot) (h : GX3_choose_10_156 rc z1 z2 z3 z4 u = some (r, u')) (hP : va_P D vwCl (VX cy ad st u) H) (hS : va_S (Ax (AX ad) s.heap.size) s.heap H locs) (hl : lv_has ls 9 [(0, .ref (ad 10)), (1, .int z1), (2, .int z2), (3, .int z3), (4, .int z4)]) : W p l e (rmX3chooseg (dd + 1)) s m args below meth c H locs 0 0 (MQ below (Qv D (VX cy ad st) (AX ad) s.heap.size r u') args s 0 0 (Ax (AX ad) s.heap.size)) (F0 m 156 ls []) := by
  unfold GX3_choose_10_156 at h
  refine lv_aload_n C.1 C.2.1 dX3_choose_156 rfl (lv_at hl 0 rfl) ?_
  refine lv_iload_n C.1 C.2.1 dX3_choose_157 rfl (lv_at hl 1 rfl) ?_
  refine lv_iconst (v := 1) C.1 C.2.1 dX3_choose_158 (by decide) ?_
  refine lv_iadd C.1 C.2.1 dX3_choose_159 ?_
  refine lv_iload_n C.1 C.2.1 dX3_choose_160 rfl (lv_at hl 2 rfl) ?_
  refine lv_iload_n C.1 C.2.1 dX3_choose_161 rfl (lv_at hl 3 rfl) ?_
  refine lv_iload C.1 C.2.1 dX3_choose_162 (lv_at hl 4 rfl) ?_
  obtain ⟨⟨r4, u5⟩, hc6, h⟩ := bd_some h
  try dsimp only at h
  refine cg_v (As := [.int (z1 + 1), .int z2, .int z3, .int z4]) (rest := []) (AX_ge hJ) C hK hP hS (hrc _ (z1 + 1) z2 z3 z4 _ _ _ hc6) (cwV 4 C.2.2.2.2.2.1 gX3_choose_X3_choose rfl rfl rfl (by decide +kernel) ⟨rmX3chooseg_sf dd, rmX3chooseg_sl dd (k := 8 + (9 + 11)) (Nat.le_of_ble_eq_true rfl)⟩) 10 3 rfl rfl rfl hl.1 rfl (Nat.le_of_ble_eq_true rfl) dX3_choose_164 ⟨Nat.zero_le _, Nat.zero_le _⟩ (fun H locs hP hS => ?_)
  cases h
  exact rt_v C hP hS dX3_choose_167
set_option maxHeartbeats 4000000 in
set_option maxRecDepth 100000 in
theorem wGX3_choose_10_32 {p : Program} {l : Launch} {e : Env} {s : State} {m : MethodId} {args : Array Value} {below : List Frame} {meth : Method} {c : Code} {D : va_G} {cy : Nat → ClassId} {ad st : Nat → Nat} (C : Cx RX3 cX3_choose 9 none wsX3_choose p s m args meth c) (hK : Ky D [(cy 0, .int), (cy 1, .long), (cy 2, .boolean), (cy 3, .byte), (cy 4, .object "HissHorn$Text")] st s) (hJ : JX ad st) {rc : Nat → Int32 → Int32 → Int32 → Int32 → SX → Option (Int32 × SX)} {dd : Nat} (hrc : hRX3chooseg l D cy ad st rc dd) {r : Int32} {u' : SX}   (z2 : Int32) (z3 : Int32) (z4 : Int32) (u : SX) (H : Heap) (locs : List Loc) (ls : Array Slot) (h : GX3_choose_10_32 rc z2 z3 z4 u = some (r, u')) (hP : va_P D vwCl (VX cy ad st u) H) (hS : va_S (Ax (AX ad) s.heap.size) s.heap H locs) (hl : lv_has ls 9 [(0, .ref (ad 10)), (2, .int z2), (3, .int z3), (4, .int z4)]) : W p l e (rmX3chooseg (dd + 1)) s m args below meth c H locs 0 0 (MQ below (Qv D (VX cy ad st) (AX ad) s.heap.size r u') args s 0 0 (Ax (AX ad) s.heap.size)) (F0 m 32 ls []) := by
  unfold GX3_choose_10_32 at h
  refine lv_aload_n C.1 C.2.1 dX3_choose_32 rfl (lv_at hl 0 rfl) ?_
  refine lv_iload_n C.1 C.2.1 dX3_choose_33 rfl (lv_at hl 2 rfl) ?_
  refine pX_10_bestWidth C hX3_choose_10_X3 hK hP hJ hS mX3_choose_10_6 dX3_choose_34 (fun H locs hP hS => ?_)
  obtain ⟨u36, hu37, h⟩ := lt_some h
  rw [← hu37] at hP
  refine lv_aload_n C.1 C.2.1 dX3_choose_37 rfl (lv_at hl 0 rfl) ?_
  refine lv_iload_n C.1 C.2.1 dX3_choose_38 rfl (lv_at hl 1 rfl) ?_
  refine pX_10_bestCoin C hX3_choose_10_X3 hK hP hJ hS mX3_choose_10_7 dX3_choose_39 (fun H locs hP hS => ?_)
  obtain ⟨u38, hu39, h⟩ := lt_some h
  rw [← hu39] at hP
  refine lv_aload_n C.1 C.2.1 dX3_choose_42 rfl (lv_at hl 0 rfl) ?_
  refine lv_iload C.1 C.2.1 dX3_choose_43 (lv_at hl 3 rfl) ?_
  refine pX_10_bestBits C hX3_choose_10_X3 hK hP hJ hS mX3_choose_10_8 dX3_choose_45 (fun H locs hP hS => ?_)
  obtain ⟨u40, hu41, h⟩ := lt_some h
  rw [← hu41] at hP
  cases h
  exact rt_v C hP hS dX3_choose_48
set_option maxHeartbeats 4000000 in
set_option maxRecDepth 100000 in
theorem wX3_choose_10 {p : Program} {l : Launch} {e : Env} {s : State} {m : MethodId} {args : Array Value} {below : List Frame} {meth : Method} {c : Code} {D : va_G} {cy : Nat → ClassId} {ad st : Nat → Nat} (C : Cx RX3 cX3_choose 9 none wsX3_choose p s m args meth c) (hK : Ky D [(cy 0, .int), (cy 1, .long), (cy 2, .boolean), (cy 3, .byte), (cy 4, .object "HissHorn$Text")] st s) (hJ : JX ad st) {rc : Nat → Int32 → Int32 → Int32 → Int32 → SX → Option (Int32 × SX)} {dd : Nat} (hrc : hRX3chooseg l D cy ad st rc dd) (x1 : Int32) (x2 : Int32) (x3 : Int32) (x4 : Int32) {u : SX} {r : Int32} {u' : SX} {H : Heap} {locs : List Loc} {ls : Array Slot} (h : fX3_choose_10 rc x1 x2 x3 x4 u = some (r, u')) (hP : va_P D vwCl (VX cy ad st u) H) (hS : va_S (Ax (AX ad) s.heap.size) s.heap H locs) (hl : lv_has ls 9 [(0, .ref (ad 10)), (1, .int x1), (2, .int x2), (3, .int x3), (4, .int x4)]) : W p l e (rmX3chooseg (dd + 1)) s m args below meth c H locs 0 0 (MQ below (Qv D (VX cy ad st) (AX ad) s.heap.size r u') args s 0 0 (Ax (AX ad) s.heap.size)) (F0 m 0 ls []) := by
  unfold fX3_choose_10 at h
  refine lv_iload_n C.1 C.2.1 dX3_choose_0 rfl (lv_at hl 1 rfl) ?_
  refine lv_aload_n C.1 C.2.1 dX3_choose_1 rfl (lv_at hl 0 rfl) ?_
  refine gX_10_size C hX3_choose_10_X3 hK hP mX3_choose_10_1 dX3_choose_2 ?_
  refine lv_icmp_lt (tgt := 49) C.1 C.2.1 dX3_choose_5 (by decide) (fun c5 => ?_) (fun c5 => ?_)
  · rw [if_pos c5] at h
    refine lv_aload_n C.1 C.2.1 dX3_choose_49 rfl (lv_at hl 0 rfl) ?_
    refine lv_iload_n C.1 C.2.1 dX3_choose_50 rfl (lv_at hl 1 rfl) ?_
    obtain ⟨⟨r1, u2⟩, hc3, h⟩ := bd_some h
    try dsimp only at h
    refine cg_i (As := [.int x1]) (rest := []) (AX_ge hJ) C hK hP hS (metX3_isDone_10 l D cy ad st hJ _ x1 hc3) (cwV 1 C.2.2.2.2.2.1 gX3_choose_X3_isDone rfl rfl rfl (by decide +kernel) ⟨(Nat.le_trans (m := 6) (Nat.le_of_ble_eq_true rfl) (rmX3chooseg_f _)), (Nat.le_trans (m := 132) (Nat.le_of_ble_eq_true rfl) (rmX3chooseg_l _))⟩) 10 3 rfl rfl rfl hl.1 rfl (Nat.le_of_ble_eq_true rfl) dX3_choose_51 ⟨Nat.zero_le _, Nat.zero_le _⟩ (fun H locs hP hS => ?_)
    refine lv_if_ne (tgt := 156) C.1 C.2.1 dX3_choose_54 (by decide) (fun c54 => ?_) (fun c54 => ?_)
    · rw [if_neg c54] at h
      exact wGX3_choose_10_156 C hK hJ hrc _ _ _ _ _ _ _ _ h hP hS hl
    · rw [if_pos c54] at h
      refine lv_aload_n C.1 C.2.1 dX3_choose_57 rfl (lv_at hl 0 rfl) ?_
      refine gX_10_cost C hX3_choose_10_X3 hK hP mX3_choose_10_2 dX3_choose_58 ?_
      refine lv_iload_n C.1 C.2.1 dX3_choose_61 rfl (lv_at hl 1 rfl) ?_
      obtain ⟨hg7, h⟩ := gd_some h
      refine lX_51 C hK hP hg7 dX3_choose_62 ?_
      refine lv_iload_n C.1 C.2.1 dX3_choose_63 rfl (lv_at hl 2 rfl) ?_
      refine lv_icmp_gt (tgt := 156) C.1 C.2.1 dX3_choose_64 (by decide) (fun c64 => ?_) (fun c64 => ?_)
      · rw [if_pos c64] at h
        exact wGX3_choose_10_156 C hK hJ hrc _ _ _ _ _ _ _ _ h hP hS hl
      · rw [if_neg c64] at h
        refine lv_aload_n C.1 C.2.1 dX3_choose_67 rfl (lv_at hl 0 rfl) ?_
        refine gX_10_part C hX3_choose_10_X3 hK hP mX3_choose_10_3 dX3_choose_68 ?_
        refine lv_iload_n C.1 C.2.1 dX3_choose_71 rfl (lv_at hl 1 rfl) ?_
        obtain ⟨hg8, h⟩ := gd_some h
        refine lX_48 C hK hP hg8 dX3_choose_72 ?_
        refine lv_topi (fun v9 hv10 => ?_)
        replace h := lt_e hv10 h
        try dsimp only at h
        refine lv_istore (lv' := [(5, .int v9), (0, .ref (ad 10)), (1, .int x1), (2, .int x2), (3, .int x3), (4, .int x4)]) C.1 C.2.1 dX3_choose_73 hl (by decide) rfl (fun ls hl => ?_)
        replace hl := lv_sub (l' := [(0, .ref (ad 10)), (1, .int x1), (2, .int x2), (3, .int x3), (4, .int x4), (5, .int v9)]) hl [1, 2, 3, 4, 5, 0] rfl
        refine lv_aload_n C.1 C.2.1 dX3_choose_75 rfl (lv_at hl 0 rfl) ?_
        refine gX_10_rowLow C hX3_choose_10_X3 hK hP mX3_choose_10_4 dX3_choose_76 ?_
        refine lv_iload C.1 C.2.1 dX3_choose_79 (lv_at hl 5 rfl) ?_
        obtain ⟨hg11, h⟩ := gd_some h
        refine lX_57 C hK hP hg11 dX3_choose_81 ?_
        refine lv_topi (fun v12 hv13 => ?_)
        replace h := lt_e hv13 h
        try dsimp only at h
        refine lv_istore (lv' := [(6, .int v12), (0, .ref (ad 10)), (1, .int x1), (2, .int x2), (3, .int x3), (4, .int x4), (5, .int v9)]) C.1 C.2.1 dX3_choose_82 hl (by decide) rfl (fun ls hl => ?_)
        replace hl := lv_sub (l' := [(0, .ref (ad 10)), (1, .int x1), (2, .int x2), (3, .int x3), (4, .int x4), (5, .int v9), (6, .int v12)]) hl [1, 2, 3, 4, 5, 6, 0] rfl
        refine lv_aload_n C.1 C.2.1 dX3_choose_84 rfl (lv_at hl 0 rfl) ?_
        refine gX_10_rowHigh C hX3_choose_10_X3 hK hP mX3_choose_10_5 dX3_choose_85 ?_
        refine lv_iload C.1 C.2.1 dX3_choose_88 (lv_at hl 5 rfl) ?_
        obtain ⟨hg14, h⟩ := gd_some h
        refine lX_58 C hK hP hg14 dX3_choose_90 ?_
        refine lv_topi (fun v15 hv16 => ?_)
        replace h := lt_e hv16 h
        try dsimp only at h
        refine lv_istore (lv' := [(7, .int v15), (0, .ref (ad 10)), (1, .int x1), (2, .int x2), (3, .int x3), (4, .int x4), (5, .int v9), (6, .int v12)]) C.1 C.2.1 dX3_choose_91 hl (by decide) rfl (fun ls hl => ?_)
        replace hl := lv_sub (l' := [(0, .ref (ad 10)), (1, .int x1), (2, .int x2), (3, .int x3), (4, .int x4), (5, .int v9), (6, .int v12), (7, .int v15)]) hl [1, 2, 3, 4, 5, 6, 7, 0] rfl
        refine lv_aload_n C.1 C.2.1 dX3_choose_93 rfl (lv_at hl 0 rfl) ?_
        refine lv_iload C.1 C.2.1 dX3_choose_94 (lv_at hl 5 rfl) ?_
        obtain ⟨⟨r17, u18⟩, hc19, h⟩ := bd_some h
        try dsimp only at h
        refine cg_i (As := [.int v9]) (rest := []) (AX_ge hJ) C hK hP hS (metX3_rowSpread_10 l D cy ad st hJ _ v9 hc19) (cwV 1 C.2.2.2.2.2.1 gX3_choose_X3_rowSpread rfl rfl rfl (by decide +kernel) ⟨(Nat.le_trans (m := 6) (Nat.le_of_ble_eq_true rfl) (rmX3chooseg_f _)), (Nat.le_trans (m := 132) (Nat.le_of_ble_eq_true rfl) (rmX3chooseg_l _))⟩) 10 3 rfl rfl rfl hl.1 rfl (Nat.le_of_ble_eq_true rfl) dX3_choose_96 ⟨Nat.zero_le _, Nat.zero_le _⟩ (fun H locs hP hS => ?_)
        refine lv_istore (lv' := [(8, .int r17), (0, .ref (ad 10)), (1, .int x1), (2, .int x2), (3, .int x3), (4, .int x4), (5, .int v9), (6, .int v12), (7, .int v15)]) C.1 C.2.1 dX3_choose_99 hl (by decide) rfl (fun ls hl => ?_)
        replace hl := lv_sub (l' := [(0, .ref (ad 10)), (1, .int x1), (2, .int x2), (3, .int x3), (4, .int x4), (5, .int v9), (6, .int v12), (7, .int v15), (8, .int r17)]) hl [1, 2, 3, 4, 5, 6, 7, 8, 0] rfl
        refine lv_aload_n C.1 C.2.1 dX3_choose_101 rfl (lv_at hl 0 rfl) ?_
        refine lv_iload_n C.1 C.2.1 dX3_choose_102 rfl (lv_at hl 1 rfl) ?_
        obtain ⟨⟨r20, u21⟩, hc22, h⟩ := bd_some h
        try dsimp only at h
        refine cg_v (As := [.int x1]) (rest := []) (AX_ge hJ) C hK hP hS (metX3_cut_10 l D cy ad st hJ _ x1 hc22) (cwV 1 C.2.2.2.2.2.1 gX3_choose_X3_cut rfl rfl rfl (by decide +kernel) ⟨(Nat.le_trans (m := 6) (Nat.le_of_ble_eq_true rfl) (rmX3chooseg_f _)), (Nat.le_trans (m := 132) (Nat.le_of_ble_eq_true rfl) (rmX3chooseg_l _))⟩) 10 3 rfl rfl rfl hl.1 rfl (Nat.le_of_ble_eq_true rfl) dX3_choose_103 ⟨Nat.zero_le _, Nat.zero_le _⟩ (fun H locs hP hS => ?_)
        refine lv_aload_n C.1 C.2.1 dX3_choose_106 rfl (lv_at hl 0 rfl) ?_
        refine lv_iload_n C.1 C.2.1 dX3_choose_107 rfl (lv_at hl 1 rfl) ?_
        refine lv_iconst (v := 1) C.1 C.2.1 dX3_choose_108 (by decide) ?_
        refine lv_iadd C.1 C.2.1 dX3_choose_109 ?_
        refine lv_iload_n C.1 C.2.1 dX3_choose_110 rfl (lv_at hl 2 rfl) ?_
        refine lv_aload_n C.1 C.2.1 dX3_choose_111 rfl (lv_at hl 0 rfl) ?_
        refine gX_10_cost C hX3_choose_10_X3 hK hP mX3_choose_10_2 dX3_choose_112 ?_
        refine lv_iload_n C.1 C.2.1 dX3_choose_115 rfl (lv_at hl 1 rfl) ?_
        obtain ⟨hg23, h⟩ := gd_some h
        refine lX_51 C hK hP hg23 dX3_choose_116 ?_
        refine lv_isub C.1 C.2.1 dX3_choose_117 ?_
        refine lv_iload_n C.1 C.2.1 dX3_choose_118 rfl (lv_at hl 3 rfl) ?_
        refine lv_aload_n C.1 C.2.1 dX3_choose_119 rfl (lv_at hl 0 rfl) ?_
        refine lv_iload C.1 C.2.1 dX3_choose_120 (lv_at hl 5 rfl) ?_
        obtain ⟨⟨r24, u25⟩, hc26, h⟩ := bd_some h
        try dsimp only at h
        refine cg_i (As := [.int v9]) (rest := [.int x3, .int (x2 - (u21.2.1 51 x1.toNatClampNeg)), .int (x1 + 1), .ref (ad 10)]) (AX_ge hJ) C hK hP hS (metX3_rowSpread_10 l D cy ad st hJ _ v9 hc26) (cwV 1 C.2.2.2.2.2.1 gX3_choose_X3_rowSpread rfl rfl rfl (by decide +kernel) ⟨(Nat.le_trans (m := 6) (Nat.le_of_ble_eq_true rfl) (rmX3chooseg_f _)), (Nat.le_trans (m := 132) (Nat.le_of_ble_eq_true rfl) (rmX3chooseg_l _))⟩) 10 3 rfl rfl rfl hl.1 rfl (Nat.le_of_ble_eq_true rfl) dX3_choose_122 ⟨Nat.zero_le _, Nat.zero_le _⟩ (fun H locs hP hS => ?_)
        refine lv_iadd C.1 C.2.1 dX3_choose_125 ?_
        refine lv_iload C.1 C.2.1 dX3_choose_126 (lv_at hl 8 rfl) ?_
        refine lv_isub C.1 C.2.1 dX3_choose_128 ?_
        refine lv_iload C.1 C.2.1 dX3_choose_129 (lv_at hl 4 rfl) ?_
        refine lv_iconst (v := 1) C.1 C.2.1 dX3_choose_131 (by decide) ?_
        refine lv_iload_n C.1 C.2.1 dX3_choose_132 rfl (lv_at hl 1 rfl) ?_
        refine lv_ishl C.1 C.2.1 dX3_choose_133 ?_
        refine lv_ior C.1 C.2.1 dX3_choose_134 ?_
        obtain ⟨⟨r27, u28⟩, hc29, h⟩ := bd_some h
        try dsimp only at h
        refine cg_v (As := [.int (x1 + 1), .int (x2 - (u21.2.1 51 x1.toNatClampNeg)), .int ((x3 + r24) - r17), .int (x4 ||| (1 <<< (x1 &&& 31)))]) (rest := []) (AX_ge hJ) C hK hP hS (hrc _ (x1 + 1) (x2 - (u21.2.1 51 x1.toNatClampNeg)) ((x3 + r24) - r17) (x4 ||| (1 <<< (x1 &&& 31))) _ _ _ hc29) (cwV 4 C.2.2.2.2.2.1 gX3_choose_X3_choose rfl rfl rfl (by decide +kernel) ⟨rmX3chooseg_sf dd, rmX3chooseg_sl dd (k := 8 + (9 + 11)) (Nat.le_of_ble_eq_true rfl)⟩) 10 3 rfl rfl rfl hl.1 rfl (Nat.le_of_ble_eq_true rfl) dX3_choose_135 ⟨Nat.zero_le _, Nat.zero_le _⟩ (fun H locs hP hS => ?_)
        refine lv_aload_n C.1 C.2.1 dX3_choose_138 rfl (lv_at hl 0 rfl) ?_
        refine gX_10_rowLow C hX3_choose_10_X3 hK hP mX3_choose_10_4 dX3_choose_139 ?_
        refine lv_iload C.1 C.2.1 dX3_choose_142 (lv_at hl 5 rfl) ?_
        refine lv_iload C.1 C.2.1 dX3_choose_144 (lv_at hl 6 rfl) ?_
        obtain ⟨hg30, h⟩ := gd_some h
        refine tX_57 C hK hP hJ hS hg30 dX3_choose_146 (fun H locs hP hS => ?_)
        obtain ⟨u31, hu32, h⟩ := lt_some h
        rw [← hu32] at hP
        refine lv_aload_n C.1 C.2.1 dX3_choose_147 rfl (lv_at hl 0 rfl) ?_
        refine gX_10_rowHigh C hX3_choose_10_X3 hK hP mX3_choose_10_5 dX3_choose_148 ?_
        refine lv_iload C.1 C.2.1 dX3_choose_151 (lv_at hl 5 rfl) ?_
        refine lv_iload C.1 C.2.1 dX3_choose_153 (lv_at hl 7 rfl) ?_
        obtain ⟨hg33, h⟩ := gd_some h
        refine tX_58 C hK hP hJ hS hg33 dX3_choose_155 (fun H locs hP hS => ?_)
        obtain ⟨u34, hu35, h⟩ := lt_some h
        rw [← hu35] at hP
        exact wGX3_choose_10_156 C hK hJ hrc _ _ _ _ _ _ _ _ h hP hS (lv_sub hl [0, 1, 2, 3, 4] rfl)
  · rw [if_neg c5] at h
    refine lv_iload_n C.1 C.2.1 dX3_choose_8 rfl (lv_at hl 3 rfl) ?_
    refine lv_aload_n C.1 C.2.1 dX3_choose_9 rfl (lv_at hl 0 rfl) ?_
    refine gX_10_bestWidth C hX3_choose_10_X3 hK hP mX3_choose_10_6 dX3_choose_10 ?_
    refine lv_icmp_lt (tgt := 32) C.1 C.2.1 dX3_choose_13 (by decide) (fun c13 => ?_) (fun c13 => ?_)
    · rw [if_pos c13] at h
      exact wGX3_choose_10_32 C hK hJ hrc _ _ _ _ _ _ _ h hP hS (lv_sub hl [0, 2, 3, 4] rfl)
    · rw [if_neg c13] at h
      refine lv_iload_n C.1 C.2.1 dX3_choose_16 rfl (lv_at hl 3 rfl) ?_
      refine lv_aload_n C.1 C.2.1 dX3_choose_17 rfl (lv_at hl 0 rfl) ?_
      refine gX_10_bestWidth C hX3_choose_10_X3 hK hP mX3_choose_10_6 dX3_choose_18 ?_
      refine lv_icmp_ne (tgt := 48) C.1 C.2.1 dX3_choose_21 (by decide) (fun c21 => ?_) (fun c21 => ?_)
      · rw [if_neg c21] at h
        cases h
        exact rt_v C hP hS dX3_choose_48
      · rw [if_pos c21] at h
        refine lv_iload_n C.1 C.2.1 dX3_choose_24 rfl (lv_at hl 2 rfl) ?_
        refine lv_aload_n C.1 C.2.1 dX3_choose_25 rfl (lv_at hl 0 rfl) ?_
        refine gX_10_bestCoin C hX3_choose_10_X3 hK hP mX3_choose_10_7 dX3_choose_26 ?_
        refine lv_icmp_le (tgt := 48) C.1 C.2.1 dX3_choose_29 (by decide) (fun c29 => ?_) (fun c29 => ?_)
        · rw [if_pos c29] at h
          cases h
          exact rt_v C hP hS dX3_choose_48
        · rw [if_neg c29] at h
          exact wGX3_choose_10_32 C hK hJ hrc _ _ _ _ _ _ _ h hP hS (lv_sub hl [0, 2, 3, 4] rfl)
theorem metX3_choose_10 (l : Launch) (D : va_G) (cy : Nat → ClassId) (ad st : Nat → Nat) (hJ : JX ad st) {rc : Nat → Int32 → Int32 → Int32 → Int32 → SX → Option (Int32 × SX)} {dd : Nat} (hrc : hRX3chooseg l D cy ad st rc dd) (sz : Nat) (x1 : Int32) (x2 : Int32) (x3 : Int32) (x4 : Int32) {u : SX} {r : Int32} {u' : SX} (h : fX3_choose_10 rc x1 x2 x3 x4 u = some (r, u')) : Met l yX3_choose wsX3_choose (rmX3chooseg (dd + 1)) (va_Pc [.ref (ad 10), .int x1, .int x2, .int x3, .int x4] (Px D [(cy 0, .int), (cy 1, .long), (cy 2, .boolean), (cy 3, .byte), (cy 4, .object "HissHorn$Text")] st (VX cy ad st) sz u)) (Qv D (VX cy ad st) (AX ad) sz r u') 0 0 (Ax (AX ad) sz) := by
  refine Met.ofW (cc := cX3_choose) (maxL := 9) (ret := none) (by decide) rfl ?_
  intro p e s m args below meth c s₁ B hml hv
  obtain ⟨rfl, hsz, hP, hK⟩ := hv
  subst hsz
  have C : Cx RX3 cX3_choose 9 none wsX3_choose p s m _ meth c := ⟨B.exec, B.bytes, hml, B.returns, findClass_of_methodNamed B.named, atoms_spec (ws := wsX3_choose) B.pre, B.notSynchronized⟩
  have hl := lv_entry ([.ref (ad 10), .int x1, .int x2, .int x3, .int x4]) (n := 9) (Nat.le_of_ble_eq_true rfl)
  rw [lg_entry_eq]
  exact wX3_choose_10 C hK hJ hrc x1 x2 x3 x4 h hP va_S.rf hl

def rX3chooseg : Nat → Nat → Int32 → Int32 → Int32 → Int32 → SX → Option (Int32 × SX)
  | 0, _, _, _, _, _, _ => none
  | d + 1, t, a0, a1, a2, a3, u => (if t = 0 then fX3_choose_10 (rX3chooseg d) a0 a1 a2 a3 u else none)
theorem hRX3chooseg_all (l : Launch) (D : va_G) (cy : Nat → ClassId) (ad st : Nat → Nat) (hJ : JX ad st) : ∀ d, hRX3chooseg l D cy ad st (rX3chooseg d) d := by
  intro d
  induction d with
  | zero =>
    skip
    · intro sz x1 x2 x3 x4 u r u' h
      exact absurd h (by intro q; cases q)
  | succ d ih =>
    skip
    · intro sz x1 x2 x3 x4 u r u' h
      rw [rX3chooseg] at h
      rw [if_pos rfl] at h
      exact metX3_choose_10 l D cy ad st hJ ih sz x1 x2 x3 x4 h

theorem zdX3_search_0 : (and (and (and (and (and (zk cX3_search 0 (.aload_n 0) 1) (zk cX3_search 1 (.aload_n 0) 1)) (zk cX3_search 2 (.getfield 90) 3)) (and (zk cX3_search 5 (.putfield 103) 3) (zk cX3_search 8 (.aload_n 0) 1))) (and (and (zk cX3_search 9 (.iconst (-1)) 1) (zk cX3_search 10 (.putfield 106) 3)) (and (zk cX3_search 13 (.aload_n 0) 1) (zk cX3_search 14 (.iconst 0) 1)))) (and (and (and (and (zk cX3_search 15 (.putfield 109) 3) (zk cX3_search 18 (.aload_n 0) 1)) (zk cX3_search 19 (.iconst 0) 1)) (and (zk cX3_search 20 (.iload_n 1) 1) (zk cX3_search 21 (.aload_n 0) 1))) (and (and (zk cX3_search 22 (.getfield 90) 3) (zk cX3_search 25 (.iconst 0) 1)) (and (zk cX3_search 26 (.invokevirtual 112) 3) (zk cX3_search 29 (.return_) 1))))) = true := by decide +kernel
theorem dX3_search_0 : decode cX3_search 0 = .ok (.aload_n 0, 1) := zk_of (zk_l (zk_l (zk_l (zk_l (zk_l zdX3_search_0)))))
theorem dX3_search_1 : decode cX3_search 1 = .ok (.aload_n 0, 1) := zk_of (zk_r (zk_l (zk_l (zk_l (zk_l zdX3_search_0)))))
theorem dX3_search_2 : decode cX3_search 2 = .ok (.getfield 90, 3) := zk_of (zk_r (zk_l (zk_l (zk_l zdX3_search_0))))
theorem dX3_search_5 : decode cX3_search 5 = .ok (.putfield 103, 3) := zk_of (zk_l (zk_r (zk_l (zk_l zdX3_search_0))))
theorem dX3_search_8 : decode cX3_search 8 = .ok (.aload_n 0, 1) := zk_of (zk_r (zk_r (zk_l (zk_l zdX3_search_0))))
theorem dX3_search_9 : decode cX3_search 9 = .ok (.iconst (-1), 1) := zk_of (zk_l (zk_l (zk_r (zk_l zdX3_search_0))))
theorem dX3_search_10 : decode cX3_search 10 = .ok (.putfield 106, 3) := zk_of (zk_r (zk_l (zk_r (zk_l zdX3_search_0))))
theorem dX3_search_13 : decode cX3_search 13 = .ok (.aload_n 0, 1) := zk_of (zk_l (zk_r (zk_r (zk_l zdX3_search_0))))
theorem dX3_search_14 : decode cX3_search 14 = .ok (.iconst 0, 1) := zk_of (zk_r (zk_r (zk_r (zk_l zdX3_search_0))))
theorem dX3_search_15 : decode cX3_search 15 = .ok (.putfield 109, 3) := zk_of (zk_l (zk_l (zk_l (zk_l (zk_r zdX3_search_0)))))
theorem dX3_search_18 : decode cX3_search 18 = .ok (.aload_n 0, 1) := zk_of (zk_r (zk_l (zk_l (zk_l (zk_r zdX3_search_0)))))
theorem dX3_search_19 : decode cX3_search 19 = .ok (.iconst 0, 1) := zk_of (zk_r (zk_l (zk_l (zk_r zdX3_search_0))))
theorem dX3_search_20 : decode cX3_search 20 = .ok (.iload_n 1, 1) := zk_of (zk_l (zk_r (zk_l (zk_r zdX3_search_0))))
theorem dX3_search_21 : decode cX3_search 21 = .ok (.aload_n 0, 1) := zk_of (zk_r (zk_r (zk_l (zk_r zdX3_search_0))))
theorem dX3_search_22 : decode cX3_search 22 = .ok (.getfield 90, 3) := zk_of (zk_l (zk_l (zk_r (zk_r zdX3_search_0))))
theorem dX3_search_25 : decode cX3_search 25 = .ok (.iconst 0, 1) := zk_of (zk_r (zk_l (zk_r (zk_r zdX3_search_0))))
theorem dX3_search_26 : decode cX3_search 26 = .ok (.invokevirtual 112, 3) := zk_of (zk_l (zk_r (zk_r (zk_r zdX3_search_0))))
theorem dX3_search_29 : decode cX3_search 29 = .ok (.return_, 1) := zk_of (zk_r (zk_r (zk_r (zk_r zdX3_search_0))))
set_option maxRecDepth 20000 in
theorem ggX3_search_X3_choose : GoodIn wsX3_search wsX3_choose := ggi (fun w h => List.mem_cons_of_mem _ (List.mem_append_left _ (List.mem_append_left _ (List.mem_append_left _ (List.mem_append_left _ (List.mem_append_left _ (List.mem_append_right _ h))))))) gs_X3_choose
set_option maxRecDepth 20000 in
theorem gX3_search_X3_choose : GoodIn wsX3_search (wsV RX3 112 RX3 yX3_choose wsX3_choose) := goodIn_app (goodIn_of _ (by decide +kernel)) ggX3_search_X3_choose
/-- HissHorn$Looks.search(I)V of cell 10 -/
def rmX3_search_10 : Room := { frames := 23, cells := 0, slots := 0, locals := 1184 }
theorem hX3_search_10_X3 : ∀ w ∈ u_ws RX3 TX3 19, w ∈ wsX3_search := fun w h => (List.mem_cons_of_mem _ (List.mem_append_left _ (List.mem_append_left _ (List.mem_append_left _ (List.mem_append_left _ (List.mem_append_right _ h))))))
theorem mX3_search_10_1 : Cond.fieldLink RX3 90 "HissHorn$Looks" "rowWidth" "I" ∈ wsX3_search := (List.mem_cons_of_mem _ (List.mem_append_left _ (List.mem_append_left _ (List.mem_append_left _ (List.mem_append_left _ (List.mem_append_left _ (List.mem_append_left _ (List.mem_of_getElem? (i := 4) rfl))))))))
theorem mX3_search_10_2 : Cond.fieldLink RX3 103 "HissHorn$Looks" "bestWidth" "I" ∈ wsX3_search := (List.mem_cons_of_mem _ (List.mem_append_left _ (List.mem_append_left _ (List.mem_append_left _ (List.mem_append_left _ (List.mem_append_left _ (List.mem_append_left _ (List.mem_of_getElem? (i := 5) rfl))))))))
theorem mX3_search_10_3 : Cond.fieldLink RX3 106 "HissHorn$Looks" "bestCoin" "I" ∈ wsX3_search := (List.mem_cons_of_mem _ (List.mem_append_left _ (List.mem_append_left _ (List.mem_append_left _ (List.mem_append_left _ (List.mem_append_left _ (List.mem_append_left _ (List.mem_of_getElem? (i := 6) rfl))))))))
theorem mX3_search_10_4 : Cond.fieldLink RX3 109 "HissHorn$Looks" "bestBits" "I" ∈ wsX3_search := (List.mem_cons_of_mem _ (List.mem_append_left _ (List.mem_append_left _ (List.mem_append_left _ (List.mem_append_left _ (List.mem_append_left _ (List.mem_append_left _ (List.mem_of_getElem? (i := 7) rfl))))))))
def fX3_search_10 (x1 : Int32) (u : SX) : Option (Int32 × SX) := (lt (sI u 31 (u.1 33)) fun u1 => (lt (sI u1 34 (-1)) fun u3 => (lt (sI u3 30 0) fun u5 => ((rX3chooseg 16 0 0 x1 (u5.1 33) 0 u5).bind fun q => match q with | (r7, u8) => (some (0, u8))))))
set_option maxHeartbeats 4000000 in
set_option maxRecDepth 100000 in
theorem wX3_search_10 {p : Program} {l : Launch} {e : Env} {s : State} {m : MethodId} {args : Array Value} {below : List Frame} {meth : Method} {c : Code} {D : va_G} {cy : Nat → ClassId} {ad st : Nat → Nat} (C : Cx RX3 cX3_search 2 none wsX3_search p s m args meth c) (hK : Ky D [(cy 0, .int), (cy 1, .long), (cy 2, .boolean), (cy 3, .byte), (cy 4, .object "HissHorn$Text")] st s) (hJ : JX ad st) (x1 : Int32) {u : SX} {r : Int32} {u' : SX} {H : Heap} {locs : List Loc} {ls : Array Slot} (h : fX3_search_10 x1 u = some (r, u')) (hP : va_P D vwCl (VX cy ad st u) H) (hS : va_S (Ax (AX ad) s.heap.size) s.heap H locs) (hl : lv_has ls 2 [(0, .ref (ad 10)), (1, .int x1)]) : W p l e rmX3_search_10 s m args below meth c H locs 0 0 (MQ below (Qv D (VX cy ad st) (AX ad) s.heap.size r u') args s 0 0 (Ax (AX ad) s.heap.size)) (F0 m 0 ls []) := by
  unfold fX3_search_10 at h
  refine lv_aload_n C.1 C.2.1 dX3_search_0 rfl (lv_at hl 0 rfl) ?_
  refine lv_aload_n C.1 C.2.1 dX3_search_1 rfl (lv_at hl 0 rfl) ?_
  refine gX_10_rowWidth C hX3_search_10_X3 hK hP mX3_search_10_1 dX3_search_2 ?_
  refine pX_10_bestWidth C hX3_search_10_X3 hK hP hJ hS mX3_search_10_2 dX3_search_5 (fun H locs hP hS => ?_)
  obtain ⟨u1, hu2, h⟩ := lt_some h
  rw [← hu2] at hP
  refine lv_aload_n C.1 C.2.1 dX3_search_8 rfl (lv_at hl 0 rfl) ?_
  refine lv_iconst (v := (-1)) C.1 C.2.1 dX3_search_9 (by decide) ?_
  refine pX_10_bestCoin C hX3_search_10_X3 hK hP hJ hS mX3_search_10_3 dX3_search_10 (fun H locs hP hS => ?_)
  obtain ⟨u3, hu4, h⟩ := lt_some h
  rw [← hu4] at hP
  refine lv_aload_n C.1 C.2.1 dX3_search_13 rfl (lv_at hl 0 rfl) ?_
  refine lv_iconst (v := 0) C.1 C.2.1 dX3_search_14 (by decide) ?_
  refine pX_10_bestBits C hX3_search_10_X3 hK hP hJ hS mX3_search_10_4 dX3_search_15 (fun H locs hP hS => ?_)
  obtain ⟨u5, hu6, h⟩ := lt_some h
  rw [← hu6] at hP
  refine lv_aload_n C.1 C.2.1 dX3_search_18 rfl (lv_at hl 0 rfl) ?_
  refine lv_iconst (v := 0) C.1 C.2.1 dX3_search_19 (by decide) ?_
  refine lv_iload_n C.1 C.2.1 dX3_search_20 rfl (lv_at hl 1 rfl) ?_
  refine lv_aload_n C.1 C.2.1 dX3_search_21 rfl (lv_at hl 0 rfl) ?_
  refine gX_10_rowWidth C hX3_search_10_X3 hK hP mX3_search_10_1 dX3_search_22 ?_
  refine lv_iconst (v := 0) C.1 C.2.1 dX3_search_25 (by decide) ?_
  obtain ⟨⟨r7, u8⟩, hc9, h⟩ := bd_some h
  try dsimp only at h
  refine cg_v (As := [.int 0, .int x1, .int (u5.1 33), .int 0]) (rest := []) (AX_ge hJ) C hK hP hS ((hRX3chooseg_all l D cy ad st hJ 16) _ 0 x1 (u5.1 33) 0 _ _ _ hc9) (cwV 4 C.2.2.2.2.2.1 gX3_search_X3_choose rfl rfl rfl (by decide +kernel) ⟨(Nat.le_of_ble_eq_true rfl), (Nat.le_of_ble_eq_true rfl)⟩) 10 3 rfl rfl rfl hl.1 rfl (Nat.le_of_ble_eq_true rfl) dX3_search_26 ⟨Nat.zero_le _, Nat.zero_le _⟩ (fun H locs hP hS => ?_)
  cases h
  exact rt_v C hP hS dX3_search_29
theorem metX3_search_10 (l : Launch) (D : va_G) (cy : Nat → ClassId) (ad st : Nat → Nat) (hJ : JX ad st) (sz : Nat) (x1 : Int32) {u : SX} {r : Int32} {u' : SX} (h : fX3_search_10 x1 u = some (r, u')) : Met l yX3_search wsX3_search rmX3_search_10 (va_Pc [.ref (ad 10), .int x1] (Px D [(cy 0, .int), (cy 1, .long), (cy 2, .boolean), (cy 3, .byte), (cy 4, .object "HissHorn$Text")] st (VX cy ad st) sz u)) (Qv D (VX cy ad st) (AX ad) sz r u') 0 0 (Ax (AX ad) sz) := by
  refine Met.ofW (cc := cX3_search) (maxL := 2) (ret := none) (by decide) rfl ?_
  intro p e s m args below meth c s₁ B hml hv
  obtain ⟨rfl, hsz, hP, hK⟩ := hv
  subst hsz
  have C : Cx RX3 cX3_search 2 none wsX3_search p s m _ meth c := ⟨B.exec, B.bytes, hml, B.returns, findClass_of_methodNamed B.named, atoms_spec (ws := wsX3_search) B.pre, B.notSynchronized⟩
  have hl := lv_entry ([.ref (ad 10), .int x1]) (n := 2) (Nat.le_of_ble_eq_true rfl)
  rw [lg_entry_eq]
  exact wX3_search_10 C hK hJ x1 h hP va_S.rf hl

theorem zdX11_plan_0 : (and (and (and (and (and (zk cX11_plan 0 (.aload_n 0) 1) (zk cX11_plan 1 (.getfield 58) 3)) (and (zk cX11_plan 4 (.iload_n 1) 1) (zk cX11_plan 5 (.invokevirtual 212) 3))) (and (and (zk cX11_plan 8 (.ifCond .eq 21) 3) (zk cX11_plan 29 (.iconst (-1)) 1)) (and (zk cX11_plan 30 (.ireturn) 1) (zk cX11_plan 11 (.iload_n 2) 1)))) (and (and (and (zk cX11_plan 12 (.iconst 0) 1) (zk cX11_plan 13 (.sipush 500) 3)) (and (zk cX11_plan 16 (.invokestatic 107) 3) (zk cX11_plan 19 (.ifCond .eq 10) 3))) (and (and (zk cX11_plan 22 (.iload_n 3) 1) (zk cX11_plan 23 (.invokestatic 177) 3)) (and (zk cX11_plan 26 (.ifCond .ne 5) 3) (zk cX11_plan 31 (.aload_n 0) 1))))) (and (and (and (and (zk cX11_plan 32 (.getfield 83) 3) (zk cX11_plan 35 (.iload_n 1) 1)) (and (zk cX11_plan 36 (.aload_n 0) 1) (zk cX11_plan 37 (.getfield 103) 3))) (and (and (zk cX11_plan 40 (.invokevirtual 279) 3) (zk cX11_plan 43 (.aload_n 0) 1)) (and (zk cX11_plan 44 (.getfield 83) 3) (zk cX11_plan 47 (.iload_n 2) 1)))) (and (and (and (zk cX11_plan 48 (.invokevirtual 282) 3) (zk cX11_plan 51 (.iload_n 3) 1)) (and (zk cX11_plan 52 (.ifCond .ne 13) 3) (zk cX11_plan 65 (.aload_n 0) 1))) (and (and (zk cX11_plan 66 (.getfield 83) 3) (zk cX11_plan 69 (.getfield 288) 3)) (and (zk cX11_plan 72 (.ireturn) 1) (zk cX11_plan 55 (.aload_n 0) 1)))))) = true := by decide +kernel
theorem dX11_plan_0 : decode cX11_plan 0 = .ok (.aload_n 0, 1) := zk_of (zk_l (zk_l (zk_l (zk_l (zk_l zdX11_plan_0)))))
theorem dX11_plan_1 : decode cX11_plan 1 = .ok (.getfield 58, 3) := zk_of (zk_r (zk_l (zk_l (zk_l (zk_l zdX11_plan_0)))))
theorem dX11_plan_4 : decode cX11_plan 4 = .ok (.iload_n 1, 1) := zk_of (zk_l (zk_r (zk_l (zk_l (zk_l zdX11_plan_0)))))
theorem dX11_plan_5 : decode cX11_plan 5 = .ok (.invokevirtual 212, 3) := zk_of (zk_r (zk_r (zk_l (zk_l (zk_l zdX11_plan_0)))))
theorem dX11_plan_8 : decode cX11_plan 8 = .ok (.ifCond .eq 21, 3) := zk_of (zk_l (zk_l (zk_r (zk_l (zk_l zdX11_plan_0)))))
theorem dX11_plan_29 : decode cX11_plan 29 = .ok (.iconst (-1), 1) := zk_of (zk_r (zk_l (zk_r (zk_l (zk_l zdX11_plan_0)))))
theorem dX11_plan_30 : decode cX11_plan 30 = .ok (.ireturn, 1) := zk_of (zk_l (zk_r (zk_r (zk_l (zk_l zdX11_plan_0)))))
theorem dX11_plan_11 : decode cX11_plan 11 = .ok (.iload_n 2, 1) := zk_of (zk_r (zk_r (zk_r (zk_l (zk_l zdX11_plan_0)))))
theorem dX11_plan_12 : decode cX11_plan 12 = .ok (.iconst 0, 1) := zk_of (zk_l (zk_l (zk_l (zk_r (zk_l zdX11_plan_0)))))
theorem dX11_plan_13 : decode cX11_plan 13 = .ok (.sipush 500, 3) := zk_of (zk_r (zk_l (zk_l (zk_r (zk_l zdX11_plan_0)))))
theorem dX11_plan_16 : decode cX11_plan 16 = .ok (.invokestatic 107, 3) := zk_of (zk_l (zk_r (zk_l (zk_r (zk_l zdX11_plan_0)))))
theorem dX11_plan_19 : decode cX11_plan 19 = .ok (.ifCond .eq 10, 3) := zk_of (zk_r (zk_r (zk_l (zk_r (zk_l zdX11_plan_0)))))
theorem dX11_plan_22 : decode cX11_plan 22 = .ok (.iload_n 3, 1) := zk_of (zk_l (zk_l (zk_r (zk_r (zk_l zdX11_plan_0)))))
theorem dX11_plan_23 : decode cX11_plan 23 = .ok (.invokestatic 177, 3) := zk_of (zk_r (zk_l (zk_r (zk_r (zk_l zdX11_plan_0)))))
theorem dX11_plan_26 : decode cX11_plan 26 = .ok (.ifCond .ne 5, 3) := zk_of (zk_l (zk_r (zk_r (zk_r (zk_l zdX11_plan_0)))))
theorem dX11_plan_31 : decode cX11_plan 31 = .ok (.aload_n 0, 1) := zk_of (zk_r (zk_r (zk_r (zk_r (zk_l zdX11_plan_0)))))
theorem dX11_plan_32 : decode cX11_plan 32 = .ok (.getfield 83, 3) := zk_of (zk_l (zk_l (zk_l (zk_l (zk_r zdX11_plan_0)))))
theorem dX11_plan_35 : decode cX11_plan 35 = .ok (.iload_n 1, 1) := zk_of (zk_r (zk_l (zk_l (zk_l (zk_r zdX11_plan_0)))))
theorem dX11_plan_36 : decode cX11_plan 36 = .ok (.aload_n 0, 1) := zk_of (zk_l (zk_r (zk_l (zk_l (zk_r zdX11_plan_0)))))
theorem dX11_plan_37 : decode cX11_plan 37 = .ok (.getfield 103, 3) := zk_of (zk_r (zk_r (zk_l (zk_l (zk_r zdX11_plan_0)))))
theorem dX11_plan_40 : decode cX11_plan 40 = .ok (.invokevirtual 279, 3) := zk_of (zk_l (zk_l (zk_r (zk_l (zk_r zdX11_plan_0)))))
theorem dX11_plan_43 : decode cX11_plan 43 = .ok (.aload_n 0, 1) := zk_of (zk_r (zk_l (zk_r (zk_l (zk_r zdX11_plan_0)))))
theorem dX11_plan_44 : decode cX11_plan 44 = .ok (.getfield 83, 3) := zk_of (zk_l (zk_r (zk_r (zk_l (zk_r zdX11_plan_0)))))
theorem dX11_plan_47 : decode cX11_plan 47 = .ok (.iload_n 2, 1) := zk_of (zk_r (zk_r (zk_r (zk_l (zk_r zdX11_plan_0)))))
theorem dX11_plan_48 : decode cX11_plan 48 = .ok (.invokevirtual 282, 3) := zk_of (zk_l (zk_l (zk_l (zk_r (zk_r zdX11_plan_0)))))
theorem dX11_plan_51 : decode cX11_plan 51 = .ok (.iload_n 3, 1) := zk_of (zk_r (zk_l (zk_l (zk_r (zk_r zdX11_plan_0)))))
theorem dX11_plan_52 : decode cX11_plan 52 = .ok (.ifCond .ne 13, 3) := zk_of (zk_l (zk_r (zk_l (zk_r (zk_r zdX11_plan_0)))))
theorem dX11_plan_65 : decode cX11_plan 65 = .ok (.aload_n 0, 1) := zk_of (zk_r (zk_r (zk_l (zk_r (zk_r zdX11_plan_0)))))
theorem dX11_plan_66 : decode cX11_plan 66 = .ok (.getfield 83, 3) := zk_of (zk_l (zk_l (zk_r (zk_r (zk_r zdX11_plan_0)))))
theorem dX11_plan_69 : decode cX11_plan 69 = .ok (.getfield 288, 3) := zk_of (zk_r (zk_l (zk_r (zk_r (zk_r zdX11_plan_0)))))
theorem dX11_plan_72 : decode cX11_plan 72 = .ok (.ireturn, 1) := zk_of (zk_l (zk_r (zk_r (zk_r (zk_r zdX11_plan_0)))))
theorem dX11_plan_55 : decode cX11_plan 55 = .ok (.aload_n 0, 1) := zk_of (zk_r (zk_r (zk_r (zk_r (zk_r zdX11_plan_0)))))
set_option maxRecDepth 20000 in
theorem ggX11_plan_X7_has : GoodIn wsX11_plan wsX7_has := ggi (fun w h => List.mem_cons_of_mem _ (List.mem_append_left _ (List.mem_append_left _ (List.mem_append_left _ (List.mem_append_left _ (List.mem_append_left _ (List.mem_append_left _ (List.mem_append_right _ (List.mem_append_left _ h))))))))) gs_X7_has
set_option maxRecDepth 20000 in
theorem gX11_plan_X7_has : GoodIn wsX11_plan (wsV RX11 212 RX7 yX7_has wsX7_has) := goodIn_app (goodIn_of _ (by decide +kernel)) ggX11_plan_X7_has
set_option maxRecDepth 20000 in
theorem ggX11_plan_X11_within : GoodIn wsX11_plan wsX11_within := ggi (fun w h => List.mem_cons_of_mem _ (List.mem_append_left _ (List.mem_append_left _ (List.mem_append_left _ (List.mem_append_left _ (List.mem_append_left _ (List.mem_append_left _ (List.mem_append_right _ (List.mem_append_right _ (List.mem_append_left _ h)))))))))) gs_X11_within
set_option maxRecDepth 20000 in
theorem gX11_plan_X11_within : GoodIn wsX11_plan (va_wsS RX11 107 yX11_within wsX11_within) := goodIn_app (goodIn_of _ (by decide +kernel)) ggX11_plan_X11_within
set_option maxRecDepth 20000 in
theorem ggX11_plan_X11_isEither : GoodIn wsX11_plan wsX11_isEither := ggi (fun w h => List.mem_cons_of_mem _ (List.mem_append_left _ (List.mem_append_left _ (List.mem_append_left _ (List.mem_append_left _ (List.mem_append_left _ (List.mem_append_left _ (List.mem_append_right _ (List.mem_append_right _ (List.mem_append_right _ (List.mem_append_left _ h))))))))))) gs_X11_isEither
set_option maxRecDepth 20000 in
theorem gX11_plan_X11_isEither : GoodIn wsX11_plan (va_wsS RX11 177 yX11_isEither wsX11_isEither) := goodIn_app (goodIn_of _ (by decide +kernel)) ggX11_plan_X11_isEither
set_option maxRecDepth 20000 in
theorem ggX11_plan_X3_startRow : GoodIn wsX11_plan wsX3_startRow := ggi (fun w h => List.mem_cons_of_mem _ (List.mem_append_left _ (List.mem_append_left _ (List.mem_append_left _ (List.mem_append_left _ (List.mem_append_left _ (List.mem_append_left _ (List.mem_append_right _ (List.mem_append_right _ (List.mem_append_right _ (List.mem_append_right _ (List.mem_append_left _ h)))))))))))) gs_X3_startRow
set_option maxRecDepth 20000 in
theorem gX11_plan_X3_startRow : GoodIn wsX11_plan (wsV RX11 279 RX3 yX3_startRow wsX3_startRow) := goodIn_app (goodIn_of _ (by decide +kernel)) ggX11_plan_X3_startRow
set_option maxRecDepth 20000 in
theorem ggX11_plan_X3_search : GoodIn wsX11_plan wsX3_search := ggi (fun w h => List.mem_cons_of_mem _ (List.mem_append_left _ (List.mem_append_left _ (List.mem_append_left _ (List.mem_append_left _ (List.mem_append_left _ (List.mem_append_left _ (List.mem_append_right _ (List.mem_append_right _ (List.mem_append_right _ (List.mem_append_right _ (List.mem_append_right _ h)))))))))))) gs_X3_search
set_option maxRecDepth 20000 in
theorem gX11_plan_X3_search : GoodIn wsX11_plan (wsV RX11 282 RX3 yX3_search wsX3_search) := goodIn_app (goodIn_of _ (by decide +kernel)) ggX11_plan_X3_search
theorem zdX11_plan_56 : (and (and (zk cX11_plan 56 (.getfield 83) 3) (zk cX11_plan 59 (.getfield 285) 3)) (zk cX11_plan 62 (.goto 10) 3)) = true := by decide +kernel
theorem dX11_plan_56 : decode cX11_plan 56 = .ok (.getfield 83, 3) := zk_of (zk_l (zk_l zdX11_plan_56))
theorem dX11_plan_59 : decode cX11_plan 59 = .ok (.getfield 285, 3) := zk_of (zk_r (zk_l zdX11_plan_56))
theorem dX11_plan_62 : decode cX11_plan 62 = .ok (.goto 10, 3) := zk_of (zk_r zdX11_plan_56)
/-- HissHorn.plan(III)I of cell 0 -/
def rmX11_plan_0 : Room := { frames := 24, cells := 0, slots := 0, locals := 1205 }
theorem hX11_plan_0_X11 : ∀ w ∈ u_ws RX11 TX11 13, w ∈ wsX11_plan := fun w h => (List.mem_cons_of_mem _ (List.mem_append_left _ (List.mem_append_left _ (List.mem_append_left _ (List.mem_append_left _ (List.mem_append_left _ (List.mem_append_right _ h)))))))
theorem mX11_plan_0_1 : Cond.fieldLink RX11 58 "HissHorn" "readings" "LHissHorn$Readings;" ∈ wsX11_plan := (List.mem_cons_of_mem _ (List.mem_append_left _ (List.mem_append_left _ (List.mem_append_left _ (List.mem_append_left _ (List.mem_append_left _ (List.mem_append_left _ (List.mem_append_left _ (List.mem_of_getElem? (i := 16) rfl)))))))))
theorem mX11_plan_0_2 : Cond.fieldLink RX11 83 "HissHorn" "looks" "LHissHorn$Looks;" ∈ wsX11_plan := (List.mem_cons_of_mem _ (List.mem_append_left _ (List.mem_append_left _ (List.mem_append_left _ (List.mem_append_left _ (List.mem_append_left _ (List.mem_append_left _ (List.mem_append_left _ (List.mem_of_getElem? (i := 17) rfl)))))))))
theorem mX11_plan_0_3 : Cond.fieldLink RX11 103 "HissHorn" "now" "I" ∈ wsX11_plan := (List.mem_cons_of_mem _ (List.mem_append_left _ (List.mem_append_left _ (List.mem_append_left _ (List.mem_append_left _ (List.mem_append_left _ (List.mem_append_left _ (List.mem_append_left _ (List.mem_of_getElem? (i := 18) rfl)))))))))
theorem hX11_plan_0_X3 : ∀ w ∈ u_ws RX3 TX3 19, w ∈ wsX11_plan := fun w h => (List.mem_cons_of_mem _ (List.mem_append_left _ (List.mem_append_left _ (List.mem_append_left _ (List.mem_append_left _ (List.mem_append_right _ h))))))
theorem mX11_plan_0_5 : Cond.fieldLink RX11 288 "HissHorn$Looks" "bestWidth" "I" ∈ wsX11_plan := (List.mem_cons_of_mem _ (List.mem_append_left _ (List.mem_append_left _ (List.mem_append_left _ (List.mem_append_left _ (List.mem_append_left _ (List.mem_append_left _ (List.mem_append_left _ (List.mem_of_getElem? (i := 19) rfl)))))))))
theorem mX11_plan_0_6 : Cond.fieldLink RX11 285 "HissHorn$Looks" "bestBits" "I" ∈ wsX11_plan := (List.mem_cons_of_mem _ (List.mem_append_left _ (List.mem_append_left _ (List.mem_append_left _ (List.mem_append_left _ (List.mem_append_left _ (List.mem_append_left _ (List.mem_append_left _ (List.mem_of_getElem? (i := 20) rfl)))))))))
def fX11_plan_0 (x1 : Int32) (x2 : Int32) (x3 : Int32) (u : SX) : Option (Int32 × SX) := ((fX7_has_7 x1 u).bind fun q => match q with | (r1, u2) => (if r1 = 0 then (some ((-1), u2)) else ((fX11_within x2 0 500).bind fun r4 => (if r4 = 0 then (some ((-1), u2)) else ((fX11_isEither x3).bind fun r7 => (if r7 = 0 then (some ((-1), u2)) else ((fX3_startRow_10 x1 (u2.1 0) u2).bind fun q => match q with | (r10, u11) => ((fX3_search_10 x2 u11).bind fun q => match q with | (r13, u14) => (if x3 = 0 then (some (u14.1 30, u14)) else (some (u14.1 31, u14)))))))))))
set_option maxHeartbeats 4000000 in
set_option maxRecDepth 100000 in
theorem wX11_plan_0 {p : Program} {l : Launch} {e : Env} {s : State} {m : MethodId} {args : Array Value} {below : List Frame} {meth : Method} {c : Code} {D : va_G} {cy : Nat → ClassId} {ad st : Nat → Nat} (C : Cx RX11 cX11_plan 4 (some .int) wsX11_plan p s m args meth c) (hK : Ky D [(cy 0, .int), (cy 1, .long), (cy 2, .boolean), (cy 3, .byte), (cy 4, .object "HissHorn$Text")] st s) (hJ : JX ad st) (x1 : Int32) (x2 : Int32) (x3 : Int32) {u : SX} {r : Int32} {u' : SX} {H : Heap} {locs : List Loc} {ls : Array Slot} (h : fX11_plan_0 x1 x2 x3 u = some (r, u')) (hP : va_P D vwCl (VX cy ad st u) H) (hS : va_S (Ax (AX ad) s.heap.size) s.heap H locs) (hl : lv_has ls 4 [(0, .ref (ad 0)), (1, .int x1), (2, .int x2), (3, .int x3)]) : W p l e rmX11_plan_0 s m args below meth c H locs 0 0 (MQ below (Qi D (VX cy ad st) (AX ad) s.heap.size r u') args s 0 0 (Ax (AX ad) s.heap.size)) (F0 m 0 ls []) := by
  unfold fX11_plan_0 at h
  refine lv_aload_n C.1 C.2.1 dX11_plan_0 rfl (lv_at hl 0 rfl) ?_
  refine gX_0_readings C hX11_plan_0_X11 hK hP mX11_plan_0_1 dX11_plan_1 ?_
  refine lv_iload_n C.1 C.2.1 dX11_plan_4 rfl (lv_at hl 1 rfl) ?_
  obtain ⟨⟨r1, u2⟩, hc3, h⟩ := bd_some h
  try dsimp only at h
  refine cg_i (As := [.int x1]) (rest := []) (AX_ge hJ) C hK hP hS (metX7_has_7 l D cy ad st hJ _ x1 hc3) (cwV 1 C.2.2.2.2.2.1 gX11_plan_X7_has rfl rfl rfl (by decide +kernel) ⟨(Nat.le_of_ble_eq_true rfl), (Nat.le_of_ble_eq_true rfl)⟩) 7 7 rfl rfl rfl hl.1 rfl (Nat.le_of_ble_eq_true rfl) dX11_plan_5 ⟨Nat.zero_le _, Nat.zero_le _⟩ (fun H locs hP hS => ?_)
  refine lv_if_eq (tgt := 29) C.1 C.2.1 dX11_plan_8 (by decide) (fun c8 => ?_) (fun c8 => ?_)
  · rw [if_pos c8] at h
    refine lv_iconst (v := (-1)) C.1 C.2.1 dX11_plan_29 (by decide) ?_
    cases h
    exact rt_i C hP hS dX11_plan_30
  · rw [if_neg c8] at h
    refine lv_iload_n C.1 C.2.1 dX11_plan_11 rfl (lv_at hl 2 rfl) ?_
    refine lv_iconst (v := 0) C.1 C.2.1 dX11_plan_12 (by decide) ?_
    refine lv_sipush (v := 500) C.1 C.2.1 dX11_plan_13 (by decide) ?_
    obtain ⟨r4, hc6, h⟩ := bd_some h
    refine cs_i (As := [.int x2, .int 0, .int 500]) (rest := []) (AX_ge hJ) C hK hP hS (metX11_within l D cy st _ x2 0 500 hc6) (va_cwS 3 C.2.2.2.2.2.1 gX11_plan_X11_within rfl rfl rfl (by decide +kernel) ⟨(Nat.le_of_ble_eq_true rfl), (Nat.le_of_ble_eq_true rfl)⟩) rfl hl.1 rfl (Nat.le_of_ble_eq_true rfl) dX11_plan_16 ⟨Nat.zero_le _, Nat.zero_le _⟩ (fun H locs hP hS => ?_)
    refine lv_if_eq (tgt := 29) C.1 C.2.1 dX11_plan_19 (by decide) (fun c19 => ?_) (fun c19 => ?_)
    · rw [if_pos c19] at h
      refine lv_iconst (v := (-1)) C.1 C.2.1 dX11_plan_29 (by decide) ?_
      cases h
      exact rt_i C hP hS dX11_plan_30
    · rw [if_neg c19] at h
      refine lv_iload_n C.1 C.2.1 dX11_plan_22 rfl (lv_at hl 3 rfl) ?_
      obtain ⟨r7, hc9, h⟩ := bd_some h
      refine cs_i (As := [.int x3]) (rest := []) (AX_ge hJ) C hK hP hS (metX11_isEither l D cy st _ x3 hc9) (va_cwS 1 C.2.2.2.2.2.1 gX11_plan_X11_isEither rfl rfl rfl (by decide +kernel) ⟨(Nat.le_of_ble_eq_true rfl), (Nat.le_of_ble_eq_true rfl)⟩) rfl hl.1 rfl (Nat.le_of_ble_eq_true rfl) dX11_plan_23 ⟨Nat.zero_le _, Nat.zero_le _⟩ (fun H locs hP hS => ?_)
      refine lv_if_ne (tgt := 31) C.1 C.2.1 dX11_plan_26 (by decide) (fun c26 => ?_) (fun c26 => ?_)
      · rw [if_neg c26] at h
        refine lv_aload_n C.1 C.2.1 dX11_plan_31 rfl (lv_at hl 0 rfl) ?_
        refine gX_0_looks C hX11_plan_0_X11 hK hP mX11_plan_0_2 dX11_plan_32 ?_
        refine lv_iload_n C.1 C.2.1 dX11_plan_35 rfl (lv_at hl 1 rfl) ?_
        refine lv_aload_n C.1 C.2.1 dX11_plan_36 rfl (lv_at hl 0 rfl) ?_
        refine gX_0_now C hX11_plan_0_X11 hK hP mX11_plan_0_3 dX11_plan_37 ?_
        obtain ⟨⟨r10, u11⟩, hc12, h⟩ := bd_some h
        try dsimp only at h
        refine cg_v (As := [.int x1, .int (u2.1 0)]) (rest := []) (AX_ge hJ) C hK hP hS (metX3_startRow_10 l D cy ad st hJ _ x1 (u2.1 0) hc12) (cwV 2 C.2.2.2.2.2.1 gX11_plan_X3_startRow rfl rfl rfl (by decide +kernel) ⟨(Nat.le_of_ble_eq_true rfl), (Nat.le_of_ble_eq_true rfl)⟩) 10 3 rfl rfl rfl hl.1 rfl (Nat.le_of_ble_eq_true rfl) dX11_plan_40 ⟨Nat.zero_le _, Nat.zero_le _⟩ (fun H locs hP hS => ?_)
        refine lv_aload_n C.1 C.2.1 dX11_plan_43 rfl (lv_at hl 0 rfl) ?_
        refine gX_0_looks C hX11_plan_0_X11 hK hP mX11_plan_0_2 dX11_plan_44 ?_
        refine lv_iload_n C.1 C.2.1 dX11_plan_47 rfl (lv_at hl 2 rfl) ?_
        obtain ⟨⟨r13, u14⟩, hc15, h⟩ := bd_some h
        try dsimp only at h
        refine cg_v (As := [.int x2]) (rest := []) (AX_ge hJ) C hK hP hS (metX3_search_10 l D cy ad st hJ _ x2 hc15) (cwV 1 C.2.2.2.2.2.1 gX11_plan_X3_search rfl rfl rfl (by decide +kernel) ⟨(Nat.le_of_ble_eq_true rfl), (Nat.le_of_ble_eq_true rfl)⟩) 10 3 rfl rfl rfl hl.1 rfl (Nat.le_of_ble_eq_true rfl) dX11_plan_48 ⟨Nat.zero_le _, Nat.zero_le _⟩ (fun H locs hP hS => ?_)
        refine lv_iload_n C.1 C.2.1 dX11_plan_51 rfl (lv_at hl 3 rfl) ?_
        refine lv_if_ne (tgt := 65) C.1 C.2.1 dX11_plan_52 (by decide) (fun c52 => ?_) (fun c52 => ?_)
        · rw [if_neg c52] at h
          refine lv_aload_n C.1 C.2.1 dX11_plan_65 rfl (lv_at hl 0 rfl) ?_
          refine gX_0_looks C hX11_plan_0_X11 hK hP mX11_plan_0_2 dX11_plan_66 ?_
          refine gX_10_bestWidth C hX11_plan_0_X3 hK hP mX11_plan_0_5 dX11_plan_69 ?_
          cases h
          exact rt_i C hP hS dX11_plan_72
        · rw [if_pos c52] at h
          refine lv_aload_n C.1 C.2.1 dX11_plan_55 rfl (lv_at hl 0 rfl) ?_
          refine gX_0_looks C hX11_plan_0_X11 hK hP mX11_plan_0_2 dX11_plan_56 ?_
          refine gX_10_bestBits C hX11_plan_0_X3 hK hP mX11_plan_0_6 dX11_plan_59 ?_
          refine lv_goto (tgt := 72) C.1 C.2.1 dX11_plan_62 (by decide) ?_
          cases h
          exact rt_i C hP hS dX11_plan_72
      · rw [if_pos c26] at h
        refine lv_iconst (v := (-1)) C.1 C.2.1 dX11_plan_29 (by decide) ?_
        cases h
        exact rt_i C hP hS dX11_plan_30
theorem metX11_plan_0 (l : Launch) (D : va_G) (cy : Nat → ClassId) (ad st : Nat → Nat) (hJ : JX ad st) (sz : Nat) (x1 : Int32) (x2 : Int32) (x3 : Int32) {u : SX} {r : Int32} {u' : SX} (h : fX11_plan_0 x1 x2 x3 u = some (r, u')) : Met l yX11_plan wsX11_plan rmX11_plan_0 (va_Pc [.ref (ad 0), .int x1, .int x2, .int x3] (Px D [(cy 0, .int), (cy 1, .long), (cy 2, .boolean), (cy 3, .byte), (cy 4, .object "HissHorn$Text")] st (VX cy ad st) sz u)) (Qi D (VX cy ad st) (AX ad) sz r u') 0 0 (Ax (AX ad) sz) := by
  refine Met.ofW (cc := cX11_plan) (maxL := 4) (ret := (some .int)) (by decide) rfl ?_
  intro p e s m args below meth c s₁ B hml hv
  obtain ⟨rfl, hsz, hP, hK⟩ := hv
  subst hsz
  have C : Cx RX11 cX11_plan 4 (some .int) wsX11_plan p s m _ meth c := ⟨B.exec, B.bytes, hml, B.returns, findClass_of_methodNamed B.named, atoms_spec (ws := wsX11_plan) B.pre, B.notSynchronized⟩
  have hl := lv_entry ([.ref (ad 0), .int x1, .int x2, .int x3]) (n := 4) (Nat.le_of_ble_eq_true rfl)
  rw [lg_entry_eq]
  exact wX11_plan_0 C hK hJ x1 x2 x3 h hP va_S.rf hl

theorem zdX3_areOpen_43 : (and (and (and (and (and (zk cX3_areOpen 43 (.iinc 2 1) 3) (zk cX3_areOpen 46 (.goto (-29)) 3)) (and (zk cX3_areOpen 17 (.iload_n 2) 1) (zk cX3_areOpen 18 (.aload_n 0) 1))) (and (and (zk cX3_areOpen 19 (.getfield 53) 3) (zk cX3_areOpen 22 (.if_icmp .ge 27) 3)) (and (zk cX3_areOpen 49 (.iconst 1) 1) (zk cX3_areOpen 50 (.ireturn) 1)))) (and (and (and (zk cX3_areOpen 25 (.iload_n 1) 1) (zk cX3_areOpen 26 (.iload_n 2) 1)) (and (zk cX3_areOpen 27 (.ishr) 1) (zk cX3_areOpen 28 (.iconst 1) 1))) (and (and (zk cX3_areOpen 29 (.iand) 1) (zk cX3_areOpen 30 (.ifCond .eq 13) 3)) (and (zk cX3_areOpen 33 (.aload_n 0) 1) (zk cX3_areOpen 34 (.iload_n 2) 1))))) (and (and (and (and (zk cX3_areOpen 35 (.invokevirtual 83) 3) (zk cX3_areOpen 38 (.ifCond .eq 5) 3)) (and (zk cX3_areOpen 41 (.iconst 0) 1) (zk cX3_areOpen 42 (.ireturn) 1))) (and (and (zk cX3_areOpen 0 (.iload_n 1) 1) (zk cX3_areOpen 1 (.ifCond .lt 12) 3)) (and (zk cX3_areOpen 13 (.iconst 0) 1) (zk cX3_areOpen 14 (.ireturn) 1)))) (and (and (and (zk cX3_areOpen 4 (.iload_n 1) 1) (zk cX3_areOpen 5 (.aload_n 0) 1)) (and (zk cX3_areOpen 6 (.getfield 53) 3) (zk cX3_areOpen 9 (.ishr) 1))) (and (and (zk cX3_areOpen 10 (.ifCond .eq 5) 3) (zk cX3_areOpen 15 (.iconst 0) 1)) (zk cX3_areOpen 16 (.istore_n 2) 1))))) = true := by decide +kernel
theorem dX3_areOpen_43 : decode cX3_areOpen 43 = .ok (.iinc 2 1, 3) := zk_of (zk_l (zk_l (zk_l (zk_l (zk_l zdX3_areOpen_43)))))
theorem dX3_areOpen_46 : decode cX3_areOpen 46 = .ok (.goto (-29), 3) := zk_of (zk_r (zk_l (zk_l (zk_l (zk_l zdX3_areOpen_43)))))
theorem dX3_areOpen_17 : decode cX3_areOpen 17 = .ok (.iload_n 2, 1) := zk_of (zk_l (zk_r (zk_l (zk_l (zk_l zdX3_areOpen_43)))))
theorem dX3_areOpen_18 : decode cX3_areOpen 18 = .ok (.aload_n 0, 1) := zk_of (zk_r (zk_r (zk_l (zk_l (zk_l zdX3_areOpen_43)))))
theorem dX3_areOpen_19 : decode cX3_areOpen 19 = .ok (.getfield 53, 3) := zk_of (zk_l (zk_l (zk_r (zk_l (zk_l zdX3_areOpen_43)))))
theorem dX3_areOpen_22 : decode cX3_areOpen 22 = .ok (.if_icmp .ge 27, 3) := zk_of (zk_r (zk_l (zk_r (zk_l (zk_l zdX3_areOpen_43)))))
theorem dX3_areOpen_49 : decode cX3_areOpen 49 = .ok (.iconst 1, 1) := zk_of (zk_l (zk_r (zk_r (zk_l (zk_l zdX3_areOpen_43)))))
theorem dX3_areOpen_50 : decode cX3_areOpen 50 = .ok (.ireturn, 1) := zk_of (zk_r (zk_r (zk_r (zk_l (zk_l zdX3_areOpen_43)))))
theorem dX3_areOpen_25 : decode cX3_areOpen 25 = .ok (.iload_n 1, 1) := zk_of (zk_l (zk_l (zk_l (zk_r (zk_l zdX3_areOpen_43)))))
theorem dX3_areOpen_26 : decode cX3_areOpen 26 = .ok (.iload_n 2, 1) := zk_of (zk_r (zk_l (zk_l (zk_r (zk_l zdX3_areOpen_43)))))
theorem dX3_areOpen_27 : decode cX3_areOpen 27 = .ok (.ishr, 1) := zk_of (zk_l (zk_r (zk_l (zk_r (zk_l zdX3_areOpen_43)))))
theorem dX3_areOpen_28 : decode cX3_areOpen 28 = .ok (.iconst 1, 1) := zk_of (zk_r (zk_r (zk_l (zk_r (zk_l zdX3_areOpen_43)))))
theorem dX3_areOpen_29 : decode cX3_areOpen 29 = .ok (.iand, 1) := zk_of (zk_l (zk_l (zk_r (zk_r (zk_l zdX3_areOpen_43)))))
theorem dX3_areOpen_30 : decode cX3_areOpen 30 = .ok (.ifCond .eq 13, 3) := zk_of (zk_r (zk_l (zk_r (zk_r (zk_l zdX3_areOpen_43)))))
theorem dX3_areOpen_33 : decode cX3_areOpen 33 = .ok (.aload_n 0, 1) := zk_of (zk_l (zk_r (zk_r (zk_r (zk_l zdX3_areOpen_43)))))
theorem dX3_areOpen_34 : decode cX3_areOpen 34 = .ok (.iload_n 2, 1) := zk_of (zk_r (zk_r (zk_r (zk_r (zk_l zdX3_areOpen_43)))))
theorem dX3_areOpen_35 : decode cX3_areOpen 35 = .ok (.invokevirtual 83, 3) := zk_of (zk_l (zk_l (zk_l (zk_l (zk_r zdX3_areOpen_43)))))
theorem dX3_areOpen_38 : decode cX3_areOpen 38 = .ok (.ifCond .eq 5, 3) := zk_of (zk_r (zk_l (zk_l (zk_l (zk_r zdX3_areOpen_43)))))
theorem dX3_areOpen_41 : decode cX3_areOpen 41 = .ok (.iconst 0, 1) := zk_of (zk_l (zk_r (zk_l (zk_l (zk_r zdX3_areOpen_43)))))
theorem dX3_areOpen_42 : decode cX3_areOpen 42 = .ok (.ireturn, 1) := zk_of (zk_r (zk_r (zk_l (zk_l (zk_r zdX3_areOpen_43)))))
theorem dX3_areOpen_0 : decode cX3_areOpen 0 = .ok (.iload_n 1, 1) := zk_of (zk_l (zk_l (zk_r (zk_l (zk_r zdX3_areOpen_43)))))
theorem dX3_areOpen_1 : decode cX3_areOpen 1 = .ok (.ifCond .lt 12, 3) := zk_of (zk_r (zk_l (zk_r (zk_l (zk_r zdX3_areOpen_43)))))
theorem dX3_areOpen_13 : decode cX3_areOpen 13 = .ok (.iconst 0, 1) := zk_of (zk_l (zk_r (zk_r (zk_l (zk_r zdX3_areOpen_43)))))
theorem dX3_areOpen_14 : decode cX3_areOpen 14 = .ok (.ireturn, 1) := zk_of (zk_r (zk_r (zk_r (zk_l (zk_r zdX3_areOpen_43)))))
theorem dX3_areOpen_4 : decode cX3_areOpen 4 = .ok (.iload_n 1, 1) := zk_of (zk_l (zk_l (zk_l (zk_r (zk_r zdX3_areOpen_43)))))
theorem dX3_areOpen_5 : decode cX3_areOpen 5 = .ok (.aload_n 0, 1) := zk_of (zk_r (zk_l (zk_l (zk_r (zk_r zdX3_areOpen_43)))))
theorem dX3_areOpen_6 : decode cX3_areOpen 6 = .ok (.getfield 53, 3) := zk_of (zk_l (zk_r (zk_l (zk_r (zk_r zdX3_areOpen_43)))))
theorem dX3_areOpen_9 : decode cX3_areOpen 9 = .ok (.ishr, 1) := zk_of (zk_r (zk_r (zk_l (zk_r (zk_r zdX3_areOpen_43)))))
theorem dX3_areOpen_10 : decode cX3_areOpen 10 = .ok (.ifCond .eq 5, 3) := zk_of (zk_l (zk_l (zk_r (zk_r (zk_r zdX3_areOpen_43)))))
theorem dX3_areOpen_15 : decode cX3_areOpen 15 = .ok (.iconst 0, 1) := zk_of (zk_r (zk_l (zk_r (zk_r (zk_r zdX3_areOpen_43)))))
theorem dX3_areOpen_16 : decode cX3_areOpen 16 = .ok (.istore_n 2, 1) := zk_of (zk_r (zk_r (zk_r (zk_r zdX3_areOpen_43))))
set_option maxRecDepth 20000 in
theorem ggX3_areOpen_X3_isDone : GoodIn wsX3_areOpen wsX3_isDone := ggi (fun w h => List.mem_cons_of_mem _ (List.mem_append_left _ (List.mem_append_right _ h))) gs_X3_isDone
set_option maxRecDepth 20000 in
theorem gX3_areOpen_X3_isDone : GoodIn wsX3_areOpen (wsV RX3 83 RX3 yX3_isDone wsX3_isDone) := goodIn_app (goodIn_of _ (by decide +kernel)) ggX3_areOpen_X3_isDone
/-- HissHorn$Looks.areOpen(I)Z of cell 10 -/
def rmX3_areOpen_10 : Room := { frames := 1, cells := 0, slots := 0, locals := 21 }
theorem hX3_areOpen_10_X3 : ∀ w ∈ u_ws RX3 TX3 19, w ∈ wsX3_areOpen := fun w h => (List.mem_cons_of_mem _ (List.mem_append_right _ h))
theorem mX3_areOpen_10_1 : Cond.fieldLink RX3 53 "HissHorn$Looks" "size" "I" ∈ wsX3_areOpen := (List.mem_cons_of_mem _ (List.mem_append_left _ (List.mem_append_left _ (List.mem_of_getElem? (i := 4) rfl))))
def GX3_areOpen_10_43 (k17 : Int32 → Int32 → SX → Option (Int32 × SX)) (z1 : Int32) (z2 : Int32) (u : SX) : Option (Int32 × SX) := (k17 z1 (z2 + 1) u)
def LX3_areOpen_10_17  : Nat → Int32 → Int32 → SX → Option (Int32 × SX)
  | 0, _, _, _ => none
  | n + 1, z1, z2, u => (if (u.1 29) ≤ z2 then (gd (isB 1) (some (1, u))) else (if ((z1 >>> (z2 &&& 31)) &&& 1) = 0 then (GX3_areOpen_10_43 (LX3_areOpen_10_17 n) z1 z2 u) else ((fX3_isDone_10 z2 u).bind fun q => match q with | (r3, u4) => (if r3 = 0 then (GX3_areOpen_10_43 (LX3_areOpen_10_17 n) z1 z2 u4) else (gd (isB 0) (some (0, u4)))))))
def fX3_areOpen_10 (x1 : Int32) (u : SX) : Option (Int32 × SX) := (if x1 < 0 then (gd (isB 0) (some (0, u))) else (if (x1 >>> ((u.1 29) &&& 31)) = 0 then (LX3_areOpen_10_17  5000 x1 0 u) else (gd (isB 0) (some (0, u)))))
set_option maxHeartbeats 4000000 in
set_option maxRecDepth 100000 in
theorem wGX3_areOpen_10_43 {p : Program} {l : Launch} {e : Env} {s : State} {m : MethodId} {args : Array Value} {below : List Frame} {meth : Method} {c : Code} {D : va_G} {cy : Nat → ClassId} {ad st : Nat → Nat} (C : Cx RX3 cX3_areOpen 3 (some .boolean) wsX3_areOpen p s m args meth c) (hK : Ky D [(cy 0, .int), (cy 1, .long), (cy 2, .boolean), (cy 3, .byte), (cy 4, .object "HissHorn$Text")] st s) (hJ : JX ad st) {r : Int32} {u' : SX} {k17 : Int32 → Int32 → SX → Option (Int32 × SX)} (hk17 : ∀ (z1 : Int32) (z2 : Int32) (u : SX) (H : Heap) (locs : List Loc) (ls : Array Slot), k17 z1 z2 u = some (r, u') → va_P D vwCl (VX cy ad st u) H → va_S (Ax (AX ad) s.heap.size) s.heap H locs → lv_has ls 3 [(0, .ref (ad 10)), (1, .int z1), (2, .int z2)] → W p l e rmX3_areOpen_10 s m args below meth c H locs 0 0 (MQ below (Qi D (VX cy ad st) (AX ad) s.heap.size r u') args s 0 0 (Ax (AX ad) s.heap.size)) (F0 m 17 ls [])) (z1 : Int32) (z2 : Int32) (u : SX) (H : Heap) (locs : List Loc) (ls : Array Slot) (h : GX3_areOpen_10_43 k17 z1 z2 u = some (r, u')) (hP : va_P D vwCl (VX cy ad st u) H) (hS : va_S (Ax (AX ad) s.heap.size) s.heap H locs) (hl : lv_has ls 3 [(0, .ref (ad 10)), (1, .int z1), (2, .int z2)]) : W p l e rmX3_areOpen_10 s m args below meth c H locs 0 0 (MQ below (Qi D (VX cy ad st) (AX ad) s.heap.size r u') args s 0 0 (Ax (AX ad) s.heap.size)) (F0 m 43 ls []) := by
  unfold GX3_areOpen_10_43 at h
  refine lv_iinc (v := z2 + 1) (lv' := [(2, .int (z2 + 1)), (0, .ref (ad 10)), (1, .int z1)]) C.1 C.2.1 dX3_areOpen_43 hl (k := 2) rfl rfl (by decide) rfl (fun ls hl => ?_)
  replace hl := lv_sub (l' := [(0, .ref (ad 10)), (1, .int z1), (2, .int (z2 + 1))]) hl [1, 2, 0] rfl
  refine lv_goto (tgt := 17) C.1 C.2.1 dX3_areOpen_46 (by decide) ?_
  exact hk17 _ _ _ _ _ _ h hP hS hl
set_option maxHeartbeats 4000000 in
set_option maxRecDepth 100000 in
theorem wLX3_areOpen_10_17 {p : Program} {l : Launch} {e : Env} {s : State} {m : MethodId} {args : Array Value} {below : List Frame} {meth : Method} {c : Code} {D : va_G} {cy : Nat → ClassId} {ad st : Nat → Nat} (C : Cx RX3 cX3_areOpen 3 (some .boolean) wsX3_areOpen p s m args meth c) (hK : Ky D [(cy 0, .int), (cy 1, .long), (cy 2, .boolean), (cy 3, .byte), (cy 4, .object "HissHorn$Text")] st s) (hJ : JX ad st) {r : Int32} {u' : SX}   : ∀ (n : Nat) (z1 : Int32) (z2 : Int32) (u : SX) (H : Heap) (locs : List Loc) (ls : Array Slot), LX3_areOpen_10_17  n z1 z2 u = some (r, u') → va_P D vwCl (VX cy ad st u) H → va_S (Ax (AX ad) s.heap.size) s.heap H locs → lv_has ls 3 [(0, .ref (ad 10)), (1, .int z1), (2, .int z2)] → W p l e rmX3_areOpen_10 s m args below meth c H locs 0 0 (MQ below (Qi D (VX cy ad st) (AX ad) s.heap.size r u') args s 0 0 (Ax (AX ad) s.heap.size)) (F0 m 17 ls []) := by
  intro n
  induction n with
  | zero =>
    intro z1 z2 u H locs ls h
    exact absurd h (by intro q; cases q)
  | succ n ih =>
    intro z1 z2 u H locs ls h hP hS hl
    rw [LX3_areOpen_10_17] at h
    refine lv_iload_n C.1 C.2.1 dX3_areOpen_17 rfl (lv_at hl 2 rfl) ?_
    refine lv_aload_n C.1 C.2.1 dX3_areOpen_18 rfl (lv_at hl 0 rfl) ?_
    refine gX_10_size C hX3_areOpen_10_X3 hK hP mX3_areOpen_10_1 dX3_areOpen_19 ?_
    refine lv_icmp_ge (tgt := 49) C.1 C.2.1 dX3_areOpen_22 (by decide) (fun c22 => ?_) (fun c22 => ?_)
    · rw [if_pos c22] at h
      refine lv_iconst (v := 1) C.1 C.2.1 dX3_areOpen_49 (by decide) ?_
      obtain ⟨hg2, h⟩ := gd_some h
      cases h
      exact rt_z hg2 C hP hS dX3_areOpen_50
    · rw [if_neg c22] at h
      refine lv_iload_n C.1 C.2.1 dX3_areOpen_25 rfl (lv_at hl 1 rfl) ?_
      refine lv_iload_n C.1 C.2.1 dX3_areOpen_26 rfl (lv_at hl 2 rfl) ?_
      refine lv_ishr C.1 C.2.1 dX3_areOpen_27 ?_
      refine lv_iconst (v := 1) C.1 C.2.1 dX3_areOpen_28 (by decide) ?_
      refine lv_iand C.1 C.2.1 dX3_areOpen_29 ?_
      refine lv_if_eq (tgt := 43) C.1 C.2.1 dX3_areOpen_30 (by decide) (fun c30 => ?_) (fun c30 => ?_)
      · rw [if_pos c30] at h
        exact wGX3_areOpen_10_43 C hK hJ ih _ _ _ _ _ _ h hP hS hl
      · rw [if_neg c30] at h
        refine lv_aload_n C.1 C.2.1 dX3_areOpen_33 rfl (lv_at hl 0 rfl) ?_
        refine lv_iload_n C.1 C.2.1 dX3_areOpen_34 rfl (lv_at hl 2 rfl) ?_
        obtain ⟨⟨r3, u4⟩, hc5, h⟩ := bd_some h
        try dsimp only at h
        refine cg_i (As := [.int z2]) (rest := []) (AX_ge hJ) C hK hP hS (metX3_isDone_10 l D cy ad st hJ _ z2 hc5) (cwV 1 C.2.2.2.2.2.1 gX3_areOpen_X3_isDone rfl rfl rfl (by decide +kernel) ⟨(Nat.le_of_ble_eq_true rfl), (Nat.le_of_ble_eq_true rfl)⟩) 10 3 rfl rfl rfl hl.1 rfl (Nat.le_of_ble_eq_true rfl) dX3_areOpen_35 ⟨Nat.zero_le _, Nat.zero_le _⟩ (fun H locs hP hS => ?_)
        refine lv_if_eq (tgt := 43) C.1 C.2.1 dX3_areOpen_38 (by decide) (fun c38 => ?_) (fun c38 => ?_)
        · rw [if_pos c38] at h
          exact wGX3_areOpen_10_43 C hK hJ ih _ _ _ _ _ _ h hP hS hl
        · rw [if_neg c38] at h
          refine lv_iconst (v := 0) C.1 C.2.1 dX3_areOpen_41 (by decide) ?_
          obtain ⟨hg6, h⟩ := gd_some h
          cases h
          exact rt_z hg6 C hP hS dX3_areOpen_42
set_option maxHeartbeats 4000000 in
set_option maxRecDepth 100000 in
theorem wX3_areOpen_10 {p : Program} {l : Launch} {e : Env} {s : State} {m : MethodId} {args : Array Value} {below : List Frame} {meth : Method} {c : Code} {D : va_G} {cy : Nat → ClassId} {ad st : Nat → Nat} (C : Cx RX3 cX3_areOpen 3 (some .boolean) wsX3_areOpen p s m args meth c) (hK : Ky D [(cy 0, .int), (cy 1, .long), (cy 2, .boolean), (cy 3, .byte), (cy 4, .object "HissHorn$Text")] st s) (hJ : JX ad st) (x1 : Int32) {u : SX} {r : Int32} {u' : SX} {H : Heap} {locs : List Loc} {ls : Array Slot} (h : fX3_areOpen_10 x1 u = some (r, u')) (hP : va_P D vwCl (VX cy ad st u) H) (hS : va_S (Ax (AX ad) s.heap.size) s.heap H locs) (hl : lv_has ls 3 [(0, .ref (ad 10)), (1, .int x1)]) : W p l e rmX3_areOpen_10 s m args below meth c H locs 0 0 (MQ below (Qi D (VX cy ad st) (AX ad) s.heap.size r u') args s 0 0 (Ax (AX ad) s.heap.size)) (F0 m 0 ls []) := by
  unfold fX3_areOpen_10 at h
  refine lv_iload_n C.1 C.2.1 dX3_areOpen_0 rfl (lv_at hl 1 rfl) ?_
  refine lv_if_lt (tgt := 13) C.1 C.2.1 dX3_areOpen_1 (by decide) (fun c1 => ?_) (fun c1 => ?_)
  · rw [if_pos c1] at h
    refine lv_iconst (v := 0) C.1 C.2.1 dX3_areOpen_13 (by decide) ?_
    obtain ⟨hg1, h⟩ := gd_some h
    cases h
    exact rt_z hg1 C hP hS dX3_areOpen_14
  · rw [if_neg c1] at h
    refine lv_iload_n C.1 C.2.1 dX3_areOpen_4 rfl (lv_at hl 1 rfl) ?_
    refine lv_aload_n C.1 C.2.1 dX3_areOpen_5 rfl (lv_at hl 0 rfl) ?_
    refine gX_10_size C hX3_areOpen_10_X3 hK hP mX3_areOpen_10_1 dX3_areOpen_6 ?_
    refine lv_ishr C.1 C.2.1 dX3_areOpen_9 ?_
    refine lv_if_eq (tgt := 15) C.1 C.2.1 dX3_areOpen_10 (by decide) (fun c10 => ?_) (fun c10 => ?_)
    · rw [if_pos c10] at h
      refine lv_iconst (v := 0) C.1 C.2.1 dX3_areOpen_15 (by decide) ?_
      refine lv_istore_n (lv' := [(2, .int 0), (0, .ref (ad 10)), (1, .int x1)]) C.1 C.2.1 dX3_areOpen_16 rfl hl (by decide) rfl (fun ls hl => ?_)
      replace hl := lv_sub (l' := [(0, .ref (ad 10)), (1, .int x1), (2, .int 0)]) hl [1, 2, 0] rfl
      exact wLX3_areOpen_10_17 C hK hJ  5000 _ _ _ _ _ _ h hP hS hl
    · rw [if_neg c10] at h
      refine lv_iconst (v := 0) C.1 C.2.1 dX3_areOpen_13 (by decide) ?_
      obtain ⟨hg7, h⟩ := gd_some h
      cases h
      exact rt_z hg7 C hP hS dX3_areOpen_14
theorem metX3_areOpen_10 (l : Launch) (D : va_G) (cy : Nat → ClassId) (ad st : Nat → Nat) (hJ : JX ad st) (sz : Nat) (x1 : Int32) {u : SX} {r : Int32} {u' : SX} (h : fX3_areOpen_10 x1 u = some (r, u')) : Met l yX3_areOpen wsX3_areOpen rmX3_areOpen_10 (va_Pc [.ref (ad 10), .int x1] (Px D [(cy 0, .int), (cy 1, .long), (cy 2, .boolean), (cy 3, .byte), (cy 4, .object "HissHorn$Text")] st (VX cy ad st) sz u)) (Qi D (VX cy ad st) (AX ad) sz r u') 0 0 (Ax (AX ad) sz) := by
  refine Met.ofW (cc := cX3_areOpen) (maxL := 3) (ret := (some .boolean)) (by decide) rfl ?_
  intro p e s m args below meth c s₁ B hml hv
  obtain ⟨rfl, hsz, hP, hK⟩ := hv
  subst hsz
  have C : Cx RX3 cX3_areOpen 3 (some .boolean) wsX3_areOpen p s m _ meth c := ⟨B.exec, B.bytes, hml, B.returns, findClass_of_methodNamed B.named, atoms_spec (ws := wsX3_areOpen) B.pre, B.notSynchronized⟩
  have hl := lv_entry ([.ref (ad 10), .int x1]) (n := 3) (Nat.le_of_ble_eq_true rfl)
  rw [lg_entry_eq]
  exact wX3_areOpen_10 C hK hJ x1 h hP va_S.rf hl

theorem zdX3_widthBehind_55 : (and (and (and (and (and (zk cX3_widthBehind 55 (.iinc 2 1) 3) (zk cX3_widthBehind 58 (.goto (-56)) 3)) (and (zk cX3_widthBehind 2 (.iload_n 2) 1) (zk cX3_widthBehind 3 (.aload_n 0) 1))) (and (and (zk cX3_widthBehind 4 (.getfield 53) 3) (zk cX3_widthBehind 7 (.if_icmp .ge 54) 3)) (and (zk cX3_widthBehind 61 (.aload_n 0) 1) (zk cX3_widthBehind 62 (.getfield 90) 3)))) (and (and (and (zk cX3_widthBehind 65 (.ireturn) 1) (zk cX3_widthBehind 10 (.iload_n 1) 1)) (and (zk cX3_widthBehind 11 (.iload_n 2) 1) (zk cX3_widthBehind 12 (.ishr) 1))) (and (and (zk cX3_widthBehind 13 (.iconst 1) 1) (zk cX3_widthBehind 14 (.iand) 1)) (and (zk cX3_widthBehind 15 (.ifCond .eq 40) 3) (zk cX3_widthBehind 18 (.aload_n 0) 1))))) (and (and (and (and (zk cX3_widthBehind 19 (.aload_n 0) 1) (zk cX3_widthBehind 20 (.getfield 9) 3)) (and (zk cX3_widthBehind 23 (.iload_n 2) 1) (zk cX3_widthBehind 24 (.iaload) 1))) (and (and (zk cX3_widthBehind 25 (.invokevirtual 96) 3) (zk cX3_widthBehind 28 (.istore_n 3) 1)) (and (zk cX3_widthBehind 29 (.aload_n 0) 1) (zk cX3_widthBehind 30 (.iload_n 2) 1)))) (and (and (and (zk cX3_widthBehind 31 (.invokevirtual 100) 3) (zk cX3_widthBehind 34 (.aload_n 0) 1)) (and (zk cX3_widthBehind 35 (.dup) 1) (zk cX3_widthBehind 36 (.getfield 90) 3))) (and (and (zk cX3_widthBehind 39 (.aload_n 0) 1) (zk cX3_widthBehind 40 (.aload_n 0) 1)) (and (zk cX3_widthBehind 41 (.getfield 9) 3) (zk cX3_widthBehind 44 (.iload_n 2) 1)))))) = true := by decide +kernel
theorem dX3_widthBehind_55 : decode cX3_widthBehind 55 = .ok (.iinc 2 1, 3) := zk_of (zk_l (zk_l (zk_l (zk_l (zk_l zdX3_widthBehind_55)))))
theorem dX3_widthBehind_58 : decode cX3_widthBehind 58 = .ok (.goto (-56), 3) := zk_of (zk_r (zk_l (zk_l (zk_l (zk_l zdX3_widthBehind_55)))))
theorem dX3_widthBehind_2 : decode cX3_widthBehind 2 = .ok (.iload_n 2, 1) := zk_of (zk_l (zk_r (zk_l (zk_l (zk_l zdX3_widthBehind_55)))))
theorem dX3_widthBehind_3 : decode cX3_widthBehind 3 = .ok (.aload_n 0, 1) := zk_of (zk_r (zk_r (zk_l (zk_l (zk_l zdX3_widthBehind_55)))))
theorem dX3_widthBehind_4 : decode cX3_widthBehind 4 = .ok (.getfield 53, 3) := zk_of (zk_l (zk_l (zk_r (zk_l (zk_l zdX3_widthBehind_55)))))
theorem dX3_widthBehind_7 : decode cX3_widthBehind 7 = .ok (.if_icmp .ge 54, 3) := zk_of (zk_r (zk_l (zk_r (zk_l (zk_l zdX3_widthBehind_55)))))
theorem dX3_widthBehind_61 : decode cX3_widthBehind 61 = .ok (.aload_n 0, 1) := zk_of (zk_l (zk_r (zk_r (zk_l (zk_l zdX3_widthBehind_55)))))
theorem dX3_widthBehind_62 : decode cX3_widthBehind 62 = .ok (.getfield 90, 3) := zk_of (zk_r (zk_r (zk_r (zk_l (zk_l zdX3_widthBehind_55)))))
theorem dX3_widthBehind_65 : decode cX3_widthBehind 65 = .ok (.ireturn, 1) := zk_of (zk_l (zk_l (zk_l (zk_r (zk_l zdX3_widthBehind_55)))))
theorem dX3_widthBehind_10 : decode cX3_widthBehind 10 = .ok (.iload_n 1, 1) := zk_of (zk_r (zk_l (zk_l (zk_r (zk_l zdX3_widthBehind_55)))))
theorem dX3_widthBehind_11 : decode cX3_widthBehind 11 = .ok (.iload_n 2, 1) := zk_of (zk_l (zk_r (zk_l (zk_r (zk_l zdX3_widthBehind_55)))))
theorem dX3_widthBehind_12 : decode cX3_widthBehind 12 = .ok (.ishr, 1) := zk_of (zk_r (zk_r (zk_l (zk_r (zk_l zdX3_widthBehind_55)))))
theorem dX3_widthBehind_13 : decode cX3_widthBehind 13 = .ok (.iconst 1, 1) := zk_of (zk_l (zk_l (zk_r (zk_r (zk_l zdX3_widthBehind_55)))))
theorem dX3_widthBehind_14 : decode cX3_widthBehind 14 = .ok (.iand, 1) := zk_of (zk_r (zk_l (zk_r (zk_r (zk_l zdX3_widthBehind_55)))))
theorem dX3_widthBehind_15 : decode cX3_widthBehind 15 = .ok (.ifCond .eq 40, 3) := zk_of (zk_l (zk_r (zk_r (zk_r (zk_l zdX3_widthBehind_55)))))
theorem dX3_widthBehind_18 : decode cX3_widthBehind 18 = .ok (.aload_n 0, 1) := zk_of (zk_r (zk_r (zk_r (zk_r (zk_l zdX3_widthBehind_55)))))
theorem dX3_widthBehind_19 : decode cX3_widthBehind 19 = .ok (.aload_n 0, 1) := zk_of (zk_l (zk_l (zk_l (zk_l (zk_r zdX3_widthBehind_55)))))
theorem dX3_widthBehind_20 : decode cX3_widthBehind 20 = .ok (.getfield 9, 3) := zk_of (zk_r (zk_l (zk_l (zk_l (zk_r zdX3_widthBehind_55)))))
theorem dX3_widthBehind_23 : decode cX3_widthBehind 23 = .ok (.iload_n 2, 1) := zk_of (zk_l (zk_r (zk_l (zk_l (zk_r zdX3_widthBehind_55)))))
theorem dX3_widthBehind_24 : decode cX3_widthBehind 24 = .ok (.iaload, 1) := zk_of (zk_r (zk_r (zk_l (zk_l (zk_r zdX3_widthBehind_55)))))
theorem dX3_widthBehind_25 : decode cX3_widthBehind 25 = .ok (.invokevirtual 96, 3) := zk_of (zk_l (zk_l (zk_r (zk_l (zk_r zdX3_widthBehind_55)))))
theorem dX3_widthBehind_28 : decode cX3_widthBehind 28 = .ok (.istore_n 3, 1) := zk_of (zk_r (zk_l (zk_r (zk_l (zk_r zdX3_widthBehind_55)))))
theorem dX3_widthBehind_29 : decode cX3_widthBehind 29 = .ok (.aload_n 0, 1) := zk_of (zk_l (zk_r (zk_r (zk_l (zk_r zdX3_widthBehind_55)))))
theorem dX3_widthBehind_30 : decode cX3_widthBehind 30 = .ok (.iload_n 2, 1) := zk_of (zk_r (zk_r (zk_r (zk_l (zk_r zdX3_widthBehind_55)))))
theorem dX3_widthBehind_31 : decode cX3_widthBehind 31 = .ok (.invokevirtual 100, 3) := zk_of (zk_l (zk_l (zk_l (zk_r (zk_r zdX3_widthBehind_55)))))
theorem dX3_widthBehind_34 : decode cX3_widthBehind 34 = .ok (.aload_n 0, 1) := zk_of (zk_r (zk_l (zk_l (zk_r (zk_r zdX3_widthBehind_55)))))
theorem dX3_widthBehind_35 : decode cX3_widthBehind 35 = .ok (.dup, 1) := zk_of (zk_l (zk_r (zk_l (zk_r (zk_r zdX3_widthBehind_55)))))
theorem dX3_widthBehind_36 : decode cX3_widthBehind 36 = .ok (.getfield 90, 3) := zk_of (zk_r (zk_r (zk_l (zk_r (zk_r zdX3_widthBehind_55)))))
theorem dX3_widthBehind_39 : decode cX3_widthBehind 39 = .ok (.aload_n 0, 1) := zk_of (zk_l (zk_l (zk_r (zk_r (zk_r zdX3_widthBehind_55)))))
theorem dX3_widthBehind_40 : decode cX3_widthBehind 40 = .ok (.aload_n 0, 1) := zk_of (zk_r (zk_l (zk_r (zk_r (zk_r zdX3_widthBehind_55)))))
theorem dX3_widthBehind_41 : decode cX3_widthBehind 41 = .ok (.getfield 9, 3) := zk_of (zk_l (zk_r (zk_r (zk_r (zk_r zdX3_widthBehind_55)))))
theorem dX3_widthBehind_44 : decode cX3_widthBehind 44 = .ok (.iload_n 2, 1) := zk_of (zk_r (zk_r (zk_r (zk_r (zk_r zdX3_widthBehind_55)))))
set_option maxRecDepth 20000 in
theorem ggX3_widthBehind_X3_rowSpread : GoodIn wsX3_widthBehind wsX3_rowSpread := ggi (fun w h => List.mem_cons_of_mem _ (List.mem_append_left _ (List.mem_append_left _ (List.mem_append_left _ (List.mem_append_left _ (List.mem_append_left _ (List.mem_append_right _ (List.mem_append_left _ h)))))))) gs_X3_rowSpread
set_option maxRecDepth 20000 in
theorem gX3_widthBehind_X3_rowSpread : GoodIn wsX3_widthBehind (wsV RX3 96 RX3 yX3_rowSpread wsX3_rowSpread) := goodIn_app (goodIn_of _ (by decide +kernel)) ggX3_widthBehind_X3_rowSpread
set_option maxRecDepth 20000 in
theorem ggX3_widthBehind_X3_cut : GoodIn wsX3_widthBehind wsX3_cut := ggi (fun w h => List.mem_cons_of_mem _ (List.mem_append_left _ (List.mem_append_left _ (List.mem_append_left _ (List.mem_append_left _ (List.mem_append_left _ (List.mem_append_right _ (List.mem_append_right _ h)))))))) gs_X3_cut
set_option maxRecDepth 20000 in
theorem gX3_widthBehind_X3_cut : GoodIn wsX3_widthBehind (wsV RX3 100 RX3 yX3_cut wsX3_cut) := goodIn_app (goodIn_of _ (by decide +kernel)) ggX3_widthBehind_X3_cut
theorem zdX3_widthBehind_45 : (and (and (and (zk cX3_widthBehind 45 (.iaload) 1) (zk cX3_widthBehind 46 (.invokevirtual 96) 3)) (and (zk cX3_widthBehind 49 (.iload_n 3) 1) (zk cX3_widthBehind 50 (.isub) 1))) (and (and (zk cX3_widthBehind 51 (.iadd) 1) (zk cX3_widthBehind 52 (.putfield 90) 3)) (and (zk cX3_widthBehind 0 (.iconst 0) 1) (zk cX3_widthBehind 1 (.istore_n 2) 1)))) = true := by decide +kernel
theorem dX3_widthBehind_45 : decode cX3_widthBehind 45 = .ok (.iaload, 1) := zk_of (zk_l (zk_l (zk_l zdX3_widthBehind_45)))
theorem dX3_widthBehind_46 : decode cX3_widthBehind 46 = .ok (.invokevirtual 96, 3) := zk_of (zk_r (zk_l (zk_l zdX3_widthBehind_45)))
theorem dX3_widthBehind_49 : decode cX3_widthBehind 49 = .ok (.iload_n 3, 1) := zk_of (zk_l (zk_r (zk_l zdX3_widthBehind_45)))
theorem dX3_widthBehind_50 : decode cX3_widthBehind 50 = .ok (.isub, 1) := zk_of (zk_r (zk_r (zk_l zdX3_widthBehind_45)))
theorem dX3_widthBehind_51 : decode cX3_widthBehind 51 = .ok (.iadd, 1) := zk_of (zk_l (zk_l (zk_r zdX3_widthBehind_45)))
theorem dX3_widthBehind_52 : decode cX3_widthBehind 52 = .ok (.putfield 90, 3) := zk_of (zk_r (zk_l (zk_r zdX3_widthBehind_45)))
theorem dX3_widthBehind_0 : decode cX3_widthBehind 0 = .ok (.iconst 0, 1) := zk_of (zk_l (zk_r (zk_r zdX3_widthBehind_45)))
theorem dX3_widthBehind_1 : decode cX3_widthBehind 1 = .ok (.istore_n 2, 1) := zk_of (zk_r (zk_r (zk_r zdX3_widthBehind_45)))
/-- HissHorn$Looks.widthBehind(I)I of cell 10 -/
def rmX3_widthBehind_10 : Room := { frames := 6, cells := 0, slots := 0, locals := 132 }
theorem hX3_widthBehind_10_X3 : ∀ w ∈ u_ws RX3 TX3 19, w ∈ wsX3_widthBehind := fun w h => (List.mem_cons_of_mem _ (List.mem_append_left _ (List.mem_append_left _ (List.mem_append_left _ (List.mem_append_left _ (List.mem_append_right _ h))))))
theorem mX3_widthBehind_10_1 : Cond.fieldLink RX3 53 "HissHorn$Looks" "size" "I" ∈ wsX3_widthBehind := (List.mem_cons_of_mem _ (List.mem_append_left _ (List.mem_append_left _ (List.mem_append_left _ (List.mem_append_left _ (List.mem_append_left _ (List.mem_append_left _ (List.mem_of_getElem? (i := 7) rfl))))))))
theorem mX3_widthBehind_10_2 : Cond.fieldLink RX3 90 "HissHorn$Looks" "rowWidth" "I" ∈ wsX3_widthBehind := (List.mem_cons_of_mem _ (List.mem_append_left _ (List.mem_append_left _ (List.mem_append_left _ (List.mem_append_left _ (List.mem_append_left _ (List.mem_append_left _ (List.mem_of_getElem? (i := 8) rfl))))))))
def GX3_widthBehind_10_55 (k2 : Int32 → Int32 → SX → Option (Int32 × SX)) (z1 : Int32) (z2 : Int32) (u : SX) : Option (Int32 × SX) := (k2 z1 (z2 + 1) u)
theorem mX3_widthBehind_10_3 : Cond.fieldLink RX3 9 "HissHorn$Looks" "part" "[I" ∈ wsX3_widthBehind := (List.mem_cons_of_mem _ (List.mem_append_left _ (List.mem_append_left _ (List.mem_append_left _ (List.mem_append_left _ (List.mem_append_left _ (List.mem_append_left _ (List.mem_of_getElem? (i := 9) rfl))))))))
def LX3_widthBehind_10_2  : Nat → Int32 → Int32 → SX → Option (Int32 × SX)
  | 0, _, _, _ => none
  | n + 1, z1, z2, u => (if (u.1 29) ≤ z2 then (some (u.1 33, u)) else (if ((z1 >>> (z2 &&& 31)) &&& 1) = 0 then (GX3_widthBehind_10_55 (LX3_widthBehind_10_2 n) z1 z2 u) else (gd (inb z2 10) ((fX3_rowSpread_10 (u.2.1 48 z2.toNatClampNeg) u).bind fun q => match q with | (r2, u3) => ((fX3_cut_10 z2 u3).bind fun q => match q with | (r5, u6) => (gd (inb z2 10) ((fX3_rowSpread_10 (u6.2.1 48 z2.toNatClampNeg) u6).bind fun q => match q with | (r9, u10) => (lt (sI u10 33 ((u6.1 33) + (r9 - r2))) fun u12 => (GX3_widthBehind_10_55 (LX3_widthBehind_10_2 n) z1 z2 u12)))))))))
def fX3_widthBehind_10 (x1 : Int32) (u : SX) : Option (Int32 × SX) := (LX3_widthBehind_10_2  5000 x1 0 u)
set_option maxHeartbeats 4000000 in
set_option maxRecDepth 100000 in
theorem wGX3_widthBehind_10_55 {p : Program} {l : Launch} {e : Env} {s : State} {m : MethodId} {args : Array Value} {below : List Frame} {meth : Method} {c : Code} {D : va_G} {cy : Nat → ClassId} {ad st : Nat → Nat} (C : Cx RX3 cX3_widthBehind 4 (some .int) wsX3_widthBehind p s m args meth c) (hK : Ky D [(cy 0, .int), (cy 1, .long), (cy 2, .boolean), (cy 3, .byte), (cy 4, .object "HissHorn$Text")] st s) (hJ : JX ad st) {r : Int32} {u' : SX} {k2 : Int32 → Int32 → SX → Option (Int32 × SX)} (hk2 : ∀ (z1 : Int32) (z2 : Int32) (u : SX) (H : Heap) (locs : List Loc) (ls : Array Slot), k2 z1 z2 u = some (r, u') → va_P D vwCl (VX cy ad st u) H → va_S (Ax (AX ad) s.heap.size) s.heap H locs → lv_has ls 4 [(0, .ref (ad 10)), (1, .int z1), (2, .int z2)] → W p l e rmX3_widthBehind_10 s m args below meth c H locs 0 0 (MQ below (Qi D (VX cy ad st) (AX ad) s.heap.size r u') args s 0 0 (Ax (AX ad) s.heap.size)) (F0 m 2 ls [])) (z1 : Int32) (z2 : Int32) (u : SX) (H : Heap) (locs : List Loc) (ls : Array Slot) (h : GX3_widthBehind_10_55 k2 z1 z2 u = some (r, u')) (hP : va_P D vwCl (VX cy ad st u) H) (hS : va_S (Ax (AX ad) s.heap.size) s.heap H locs) (hl : lv_has ls 4 [(0, .ref (ad 10)), (1, .int z1), (2, .int z2)]) : W p l e rmX3_widthBehind_10 s m args below meth c H locs 0 0 (MQ below (Qi D (VX cy ad st) (AX ad) s.heap.size r u') args s 0 0 (Ax (AX ad) s.heap.size)) (F0 m 55 ls []) := by
  unfold GX3_widthBehind_10_55 at h
  refine lv_iinc (v := z2 + 1) (lv' := [(2, .int (z2 + 1)), (0, .ref (ad 10)), (1, .int z1)]) C.1 C.2.1 dX3_widthBehind_55 hl (k := 2) rfl rfl (by decide) rfl (fun ls hl => ?_)
  replace hl := lv_sub (l' := [(0, .ref (ad 10)), (1, .int z1), (2, .int (z2 + 1))]) hl [1, 2, 0] rfl
  refine lv_goto (tgt := 2) C.1 C.2.1 dX3_widthBehind_58 (by decide) ?_
  exact hk2 _ _ _ _ _ _ h hP hS hl
set_option maxHeartbeats 4000000 in
set_option maxRecDepth 100000 in
theorem wLX3_widthBehind_10_2 {p : Program} {l : Launch} {e : Env} {s : State} {m : MethodId} {args : Array Value} {below : List Frame} {meth : Method} {c : Code} {D : va_G} {cy : Nat → ClassId} {ad st : Nat → Nat} (C : Cx RX3 cX3_widthBehind 4 (some .int) wsX3_widthBehind p s m args meth c) (hK : Ky D [(cy 0, .int), (cy 1, .long), (cy 2, .boolean), (cy 3, .byte), (cy 4, .object "HissHorn$Text")] st s) (hJ : JX ad st) {r : Int32} {u' : SX}   : ∀ (n : Nat) (z1 : Int32) (z2 : Int32) (u : SX) (H : Heap) (locs : List Loc) (ls : Array Slot), LX3_widthBehind_10_2  n z1 z2 u = some (r, u') → va_P D vwCl (VX cy ad st u) H → va_S (Ax (AX ad) s.heap.size) s.heap H locs → lv_has ls 4 [(0, .ref (ad 10)), (1, .int z1), (2, .int z2)] → W p l e rmX3_widthBehind_10 s m args below meth c H locs 0 0 (MQ below (Qi D (VX cy ad st) (AX ad) s.heap.size r u') args s 0 0 (Ax (AX ad) s.heap.size)) (F0 m 2 ls []) := by
  intro n
  induction n with
  | zero =>
    intro z1 z2 u H locs ls h
    exact absurd h (by intro q; cases q)
  | succ n ih =>
    intro z1 z2 u H locs ls h hP hS hl
    rw [LX3_widthBehind_10_2] at h
    refine lv_iload_n C.1 C.2.1 dX3_widthBehind_2 rfl (lv_at hl 2 rfl) ?_
    refine lv_aload_n C.1 C.2.1 dX3_widthBehind_3 rfl (lv_at hl 0 rfl) ?_
    refine gX_10_size C hX3_widthBehind_10_X3 hK hP mX3_widthBehind_10_1 dX3_widthBehind_4 ?_
    refine lv_icmp_ge (tgt := 61) C.1 C.2.1 dX3_widthBehind_7 (by decide) (fun c7 => ?_) (fun c7 => ?_)
    · rw [if_pos c7] at h
      refine lv_aload_n C.1 C.2.1 dX3_widthBehind_61 rfl (lv_at hl 0 rfl) ?_
      refine gX_10_rowWidth C hX3_widthBehind_10_X3 hK hP mX3_widthBehind_10_2 dX3_widthBehind_62 ?_
      cases h
      exact rt_i C hP hS dX3_widthBehind_65
    · rw [if_neg c7] at h
      refine lv_iload_n C.1 C.2.1 dX3_widthBehind_10 rfl (lv_at hl 1 rfl) ?_
      refine lv_iload_n C.1 C.2.1 dX3_widthBehind_11 rfl (lv_at hl 2 rfl) ?_
      refine lv_ishr C.1 C.2.1 dX3_widthBehind_12 ?_
      refine lv_iconst (v := 1) C.1 C.2.1 dX3_widthBehind_13 (by decide) ?_
      refine lv_iand C.1 C.2.1 dX3_widthBehind_14 ?_
      refine lv_if_eq (tgt := 55) C.1 C.2.1 dX3_widthBehind_15 (by decide) (fun c15 => ?_) (fun c15 => ?_)
      · rw [if_pos c15] at h
        exact wGX3_widthBehind_10_55 C hK hJ ih _ _ _ _ _ _ h hP hS hl
      · rw [if_neg c15] at h
        refine lv_aload_n C.1 C.2.1 dX3_widthBehind_18 rfl (lv_at hl 0 rfl) ?_
        refine lv_aload_n C.1 C.2.1 dX3_widthBehind_19 rfl (lv_at hl 0 rfl) ?_
        refine gX_10_part C hX3_widthBehind_10_X3 hK hP mX3_widthBehind_10_3 dX3_widthBehind_20 ?_
        refine lv_iload_n C.1 C.2.1 dX3_widthBehind_23 rfl (lv_at hl 2 rfl) ?_
        obtain ⟨hg1, h⟩ := gd_some h
        refine lX_48 C hK hP hg1 dX3_widthBehind_24 ?_
        obtain ⟨⟨r2, u3⟩, hc4, h⟩ := bd_some h
        try dsimp only at h
        refine cg_i (As := [.int (u.2.1 48 z2.toNatClampNeg)]) (rest := []) (AX_ge hJ) C hK hP hS (metX3_rowSpread_10 l D cy ad st hJ _ (u.2.1 48 z2.toNatClampNeg) hc4) (cwV 1 C.2.2.2.2.2.1 gX3_widthBehind_X3_rowSpread rfl rfl rfl (by decide +kernel) ⟨(Nat.le_of_ble_eq_true rfl), (Nat.le_of_ble_eq_true rfl)⟩) 10 3 rfl rfl rfl hl.1 rfl (Nat.le_of_ble_eq_true rfl) dX3_widthBehind_25 ⟨Nat.zero_le _, Nat.zero_le _⟩ (fun H locs hP hS => ?_)
        refine lv_istore_n (lv' := [(3, .int r2), (0, .ref (ad 10)), (1, .int z1), (2, .int z2)]) C.1 C.2.1 dX3_widthBehind_28 rfl hl (by decide) rfl (fun ls hl => ?_)
        replace hl := lv_sub (l' := [(0, .ref (ad 10)), (1, .int z1), (2, .int z2), (3, .int r2)]) hl [1, 2, 3, 0] rfl
        refine lv_aload_n C.1 C.2.1 dX3_widthBehind_29 rfl (lv_at hl 0 rfl) ?_
        refine lv_iload_n C.1 C.2.1 dX3_widthBehind_30 rfl (lv_at hl 2 rfl) ?_
        obtain ⟨⟨r5, u6⟩, hc7, h⟩ := bd_some h
        try dsimp only at h
        refine cg_v (As := [.int z2]) (rest := []) (AX_ge hJ) C hK hP hS (metX3_cut_10 l D cy ad st hJ _ z2 hc7) (cwV 1 C.2.2.2.2.2.1 gX3_widthBehind_X3_cut rfl rfl rfl (by decide +kernel) ⟨(Nat.le_of_ble_eq_true rfl), (Nat.le_of_ble_eq_true rfl)⟩) 10 3 rfl rfl rfl hl.1 rfl (Nat.le_of_ble_eq_true rfl) dX3_widthBehind_31 ⟨Nat.zero_le _, Nat.zero_le _⟩ (fun H locs hP hS => ?_)
        refine lv_aload_n C.1 C.2.1 dX3_widthBehind_34 rfl (lv_at hl 0 rfl) ?_
        refine lv_dup C.1 C.2.1 dX3_widthBehind_35 rfl ?_
        refine gX_10_rowWidth C hX3_widthBehind_10_X3 hK hP mX3_widthBehind_10_2 dX3_widthBehind_36 ?_
        refine lv_aload_n C.1 C.2.1 dX3_widthBehind_39 rfl (lv_at hl 0 rfl) ?_
        refine lv_aload_n C.1 C.2.1 dX3_widthBehind_40 rfl (lv_at hl 0 rfl) ?_
        refine gX_10_part C hX3_widthBehind_10_X3 hK hP mX3_widthBehind_10_3 dX3_widthBehind_41 ?_
        refine lv_iload_n C.1 C.2.1 dX3_widthBehind_44 rfl (lv_at hl 2 rfl) ?_
        obtain ⟨hg8, h⟩ := gd_some h
        refine lX_48 C hK hP hg8 dX3_widthBehind_45 ?_
        obtain ⟨⟨r9, u10⟩, hc11, h⟩ := bd_some h
        try dsimp only at h
        refine cg_i (As := [.int (u6.2.1 48 z2.toNatClampNeg)]) (rest := [.int (u6.1 33), .ref (ad 10)]) (AX_ge hJ) C hK hP hS (metX3_rowSpread_10 l D cy ad st hJ _ (u6.2.1 48 z2.toNatClampNeg) hc11) (cwV 1 C.2.2.2.2.2.1 gX3_widthBehind_X3_rowSpread rfl rfl rfl (by decide +kernel) ⟨(Nat.le_of_ble_eq_true rfl), (Nat.le_of_ble_eq_true rfl)⟩) 10 3 rfl rfl rfl hl.1 rfl (Nat.le_of_ble_eq_true rfl) dX3_widthBehind_46 ⟨Nat.zero_le _, Nat.zero_le _⟩ (fun H locs hP hS => ?_)
        refine lv_iload_n C.1 C.2.1 dX3_widthBehind_49 rfl (lv_at hl 3 rfl) ?_
        refine lv_isub C.1 C.2.1 dX3_widthBehind_50 ?_
        refine lv_iadd C.1 C.2.1 dX3_widthBehind_51 ?_
        refine pX_10_rowWidth C hX3_widthBehind_10_X3 hK hP hJ hS mX3_widthBehind_10_2 dX3_widthBehind_52 (fun H locs hP hS => ?_)
        obtain ⟨u12, hu13, h⟩ := lt_some h
        rw [← hu13] at hP
        exact wGX3_widthBehind_10_55 C hK hJ ih _ _ _ _ _ _ h hP hS (lv_sub hl [0, 1, 2] rfl)
set_option maxHeartbeats 4000000 in
set_option maxRecDepth 100000 in
theorem wX3_widthBehind_10 {p : Program} {l : Launch} {e : Env} {s : State} {m : MethodId} {args : Array Value} {below : List Frame} {meth : Method} {c : Code} {D : va_G} {cy : Nat → ClassId} {ad st : Nat → Nat} (C : Cx RX3 cX3_widthBehind 4 (some .int) wsX3_widthBehind p s m args meth c) (hK : Ky D [(cy 0, .int), (cy 1, .long), (cy 2, .boolean), (cy 3, .byte), (cy 4, .object "HissHorn$Text")] st s) (hJ : JX ad st) (x1 : Int32) {u : SX} {r : Int32} {u' : SX} {H : Heap} {locs : List Loc} {ls : Array Slot} (h : fX3_widthBehind_10 x1 u = some (r, u')) (hP : va_P D vwCl (VX cy ad st u) H) (hS : va_S (Ax (AX ad) s.heap.size) s.heap H locs) (hl : lv_has ls 4 [(0, .ref (ad 10)), (1, .int x1)]) : W p l e rmX3_widthBehind_10 s m args below meth c H locs 0 0 (MQ below (Qi D (VX cy ad st) (AX ad) s.heap.size r u') args s 0 0 (Ax (AX ad) s.heap.size)) (F0 m 0 ls []) := by
  unfold fX3_widthBehind_10 at h
  refine lv_iconst (v := 0) C.1 C.2.1 dX3_widthBehind_0 (by decide) ?_
  refine lv_istore_n (lv' := [(2, .int 0), (0, .ref (ad 10)), (1, .int x1)]) C.1 C.2.1 dX3_widthBehind_1 rfl hl (by decide) rfl (fun ls hl => ?_)
  replace hl := lv_sub (l' := [(0, .ref (ad 10)), (1, .int x1), (2, .int 0)]) hl [1, 2, 0] rfl
  exact wLX3_widthBehind_10_2 C hK hJ  5000 _ _ _ _ _ _ h hP hS hl
theorem metX3_widthBehind_10 (l : Launch) (D : va_G) (cy : Nat → ClassId) (ad st : Nat → Nat) (hJ : JX ad st) (sz : Nat) (x1 : Int32) {u : SX} {r : Int32} {u' : SX} (h : fX3_widthBehind_10 x1 u = some (r, u')) : Met l yX3_widthBehind wsX3_widthBehind rmX3_widthBehind_10 (va_Pc [.ref (ad 10), .int x1] (Px D [(cy 0, .int), (cy 1, .long), (cy 2, .boolean), (cy 3, .byte), (cy 4, .object "HissHorn$Text")] st (VX cy ad st) sz u)) (Qi D (VX cy ad st) (AX ad) sz r u') 0 0 (Ax (AX ad) sz) := by
  refine Met.ofW (cc := cX3_widthBehind) (maxL := 4) (ret := (some .int)) (by decide) rfl ?_
  intro p e s m args below meth c s₁ B hml hv
  obtain ⟨rfl, hsz, hP, hK⟩ := hv
  subst hsz
  have C : Cx RX3 cX3_widthBehind 4 (some .int) wsX3_widthBehind p s m _ meth c := ⟨B.exec, B.bytes, hml, B.returns, findClass_of_methodNamed B.named, atoms_spec (ws := wsX3_widthBehind) B.pre, B.notSynchronized⟩
  have hl := lv_entry ([.ref (ad 10), .int x1]) (n := 4) (Nat.le_of_ble_eq_true rfl)
  rw [lg_entry_eq]
  exact wX3_widthBehind_10 C hK hJ x1 h hP va_S.rf hl

theorem zdX11_judge_0 : (and (and (and (and (and (zk cX11_judge 0 (.aload_n 0) 1) (zk cX11_judge 1 (.getfield 58) 3)) (zk cX11_judge 4 (.iload_n 2) 1)) (and (and (zk cX11_judge 5 (.invokevirtual 212) 3) (zk cX11_judge 8 (.ifCond .eq 14) 3)) (zk cX11_judge 22 (.bipush (-2)) 2))) (and (and (and (zk cX11_judge 24 (.ireturn) 1) (zk cX11_judge 11 (.aload_n 0) 1)) (zk cX11_judge 12 (.getfield 83) 3)) (and (and (zk cX11_judge 15 (.iload_n 1) 1) (zk cX11_judge 16 (.invokevirtual 291) 3)) (zk cX11_judge 19 (.ifCond .ne 6) 3)))) (and (and (and (and (zk cX11_judge 25 (.aload_n 0) 1) (zk cX11_judge 26 (.getfield 83) 3)) (zk cX11_judge 29 (.iload_n 2) 1)) (and (and (zk cX11_judge 30 (.aload_n 0) 1) (zk cX11_judge 31 (.getfield 103) 3)) (zk cX11_judge 34 (.invokevirtual 279) 3))) (and (and (and (zk cX11_judge 37 (.aload_n 0) 1) (zk cX11_judge 38 (.getfield 83) 3)) (zk cX11_judge 41 (.iload_n 1) 1)) (and (zk cX11_judge 42 (.invokevirtual 294) 3) (zk cX11_judge 45 (.ireturn) 1))))) = true := by decide +kernel
theorem dX11_judge_0 : decode cX11_judge 0 = .ok (.aload_n 0, 1) := zk_of (zk_l (zk_l (zk_l (zk_l (zk_l zdX11_judge_0)))))
theorem dX11_judge_1 : decode cX11_judge 1 = .ok (.getfield 58, 3) := zk_of (zk_r (zk_l (zk_l (zk_l (zk_l zdX11_judge_0)))))
theorem dX11_judge_4 : decode cX11_judge 4 = .ok (.iload_n 2, 1) := zk_of (zk_r (zk_l (zk_l (zk_l zdX11_judge_0))))
theorem dX11_judge_5 : decode cX11_judge 5 = .ok (.invokevirtual 212, 3) := zk_of (zk_l (zk_l (zk_r (zk_l (zk_l zdX11_judge_0)))))
theorem dX11_judge_8 : decode cX11_judge 8 = .ok (.ifCond .eq 14, 3) := zk_of (zk_r (zk_l (zk_r (zk_l (zk_l zdX11_judge_0)))))
theorem dX11_judge_22 : decode cX11_judge 22 = .ok (.bipush (-2), 2) := zk_of (zk_r (zk_r (zk_l (zk_l zdX11_judge_0))))
theorem dX11_judge_24 : decode cX11_judge 24 = .ok (.ireturn, 1) := zk_of (zk_l (zk_l (zk_l (zk_r (zk_l zdX11_judge_0)))))
theorem dX11_judge_11 : decode cX11_judge 11 = .ok (.aload_n 0, 1) := zk_of (zk_r (zk_l (zk_l (zk_r (zk_l zdX11_judge_0)))))
theorem dX11_judge_12 : decode cX11_judge 12 = .ok (.getfield 83, 3) := zk_of (zk_r (zk_l (zk_r (zk_l zdX11_judge_0))))
theorem dX11_judge_15 : decode cX11_judge 15 = .ok (.iload_n 1, 1) := zk_of (zk_l (zk_l (zk_r (zk_r (zk_l zdX11_judge_0)))))
theorem dX11_judge_16 : decode cX11_judge 16 = .ok (.invokevirtual 291, 3) := zk_of (zk_r (zk_l (zk_r (zk_r (zk_l zdX11_judge_0)))))
theorem dX11_judge_19 : decode cX11_judge 19 = .ok (.ifCond .ne 6, 3) := zk_of (zk_r (zk_r (zk_r (zk_l zdX11_judge_0))))
theorem dX11_judge_25 : decode cX11_judge 25 = .ok (.aload_n 0, 1) := zk_of (zk_l (zk_l (zk_l (zk_l (zk_r zdX11_judge_0)))))
theorem dX11_judge_26 : decode cX11_judge 26 = .ok (.getfield 83, 3) := zk_of (zk_r (zk_l (zk_l (zk_l (zk_r zdX11_judge_0)))))
theorem dX11_judge_29 : decode cX11_judge 29 = .ok (.iload_n 2, 1) := zk_of (zk_r (zk_l (zk_l (zk_r zdX11_judge_0))))
theorem dX11_judge_30 : decode cX11_judge 30 = .ok (.aload_n 0, 1) := zk_of (zk_l (zk_l (zk_r (zk_l (zk_r zdX11_judge_0)))))
theorem dX11_judge_31 : decode cX11_judge 31 = .ok (.getfield 103, 3) := zk_of (zk_r (zk_l (zk_r (zk_l (zk_r zdX11_judge_0)))))
theorem dX11_judge_34 : decode cX11_judge 34 = .ok (.invokevirtual 279, 3) := zk_of (zk_r (zk_r (zk_l (zk_r zdX11_judge_0))))
theorem dX11_judge_37 : decode cX11_judge 37 = .ok (.aload_n 0, 1) := zk_of (zk_l (zk_l (zk_l (zk_r (zk_r zdX11_judge_0)))))
theorem dX11_judge_38 : decode cX11_judge 38 = .ok (.getfield 83, 3) := zk_of (zk_r (zk_l (zk_l (zk_r (zk_r zdX11_judge_0)))))
theorem dX11_judge_41 : decode cX11_judge 41 = .ok (.iload_n 1, 1) := zk_of (zk_r (zk_l (zk_r (zk_r zdX11_judge_0))))
theorem dX11_judge_42 : decode cX11_judge 42 = .ok (.invokevirtual 294, 3) := zk_of (zk_l (zk_r (zk_r (zk_r zdX11_judge_0))))
theorem dX11_judge_45 : decode cX11_judge 45 = .ok (.ireturn, 1) := zk_of (zk_r (zk_r (zk_r (zk_r zdX11_judge_0))))
set_option maxRecDepth 20000 in
theorem ggX11_judge_X7_has : GoodIn wsX11_judge wsX7_has := ggi (fun w h => List.mem_cons_of_mem _ (List.mem_append_left _ (List.mem_append_left _ (List.mem_append_left _ (List.mem_append_left _ (List.mem_append_left _ (List.mem_append_left _ (List.mem_append_right _ (List.mem_append_left _ h))))))))) gs_X7_has
set_option maxRecDepth 20000 in
theorem gX11_judge_X7_has : GoodIn wsX11_judge (wsV RX11 212 RX7 yX7_has wsX7_has) := goodIn_app (goodIn_of _ (by decide +kernel)) ggX11_judge_X7_has
set_option maxRecDepth 20000 in
theorem ggX11_judge_X3_areOpen : GoodIn wsX11_judge wsX3_areOpen := ggi (fun w h => List.mem_cons_of_mem _ (List.mem_append_left _ (List.mem_append_left _ (List.mem_append_left _ (List.mem_append_left _ (List.mem_append_left _ (List.mem_append_left _ (List.mem_append_right _ (List.mem_append_right _ (List.mem_append_left _ h)))))))))) gs_X3_areOpen
set_option maxRecDepth 20000 in
theorem gX11_judge_X3_areOpen : GoodIn wsX11_judge (wsV RX11 291 RX3 yX3_areOpen wsX3_areOpen) := goodIn_app (goodIn_of _ (by decide +kernel)) ggX11_judge_X3_areOpen
set_option maxRecDepth 20000 in
theorem ggX11_judge_X3_startRow : GoodIn wsX11_judge wsX3_startRow := ggi (fun w h => List.mem_cons_of_mem _ (List.mem_append_left _ (List.mem_append_left _ (List.mem_append_left _ (List.mem_append_left _ (List.mem_append_left _ (List.mem_append_left _ (List.mem_append_right _ (List.mem_append_right _ (List.mem_append_right _ (List.mem_append_left _ h))))))))))) gs_X3_startRow
set_option maxRecDepth 20000 in
theorem gX11_judge_X3_startRow : GoodIn wsX11_judge (wsV RX11 279 RX3 yX3_startRow wsX3_startRow) := goodIn_app (goodIn_of _ (by decide +kernel)) ggX11_judge_X3_startRow
set_option maxRecDepth 20000 in
theorem ggX11_judge_X3_widthBehind : GoodIn wsX11_judge wsX3_widthBehind := ggi (fun w h => List.mem_cons_of_mem _ (List.mem_append_left _ (List.mem_append_left _ (List.mem_append_left _ (List.mem_append_left _ (List.mem_append_left _ (List.mem_append_left _ (List.mem_append_right _ (List.mem_append_right _ (List.mem_append_right _ (List.mem_append_right _ h))))))))))) gs_X3_widthBehind
set_option maxRecDepth 20000 in
theorem gX11_judge_X3_widthBehind : GoodIn wsX11_judge (wsV RX11 294 RX3 yX3_widthBehind wsX3_widthBehind) := goodIn_app (goodIn_of _ (by decide +kernel)) ggX11_judge_X3_widthBehind
/-- HissHorn.judge(II)I of cell 0 -/
def rmX11_judge_0 : Room := { frames := 7, cells := 0, slots := 0, locals := 155 }
theorem hX11_judge_0_X11 : ∀ w ∈ u_ws RX11 TX11 13, w ∈ wsX11_judge := fun w h => (List.mem_cons_of_mem _ (List.mem_append_left _ (List.mem_append_left _ (List.mem_append_left _ (List.mem_append_left _ (List.mem_append_left _ (List.mem_append_right _ h)))))))
theorem mX11_judge_0_1 : Cond.fieldLink RX11 58 "HissHorn" "readings" "LHissHorn$Readings;" ∈ wsX11_judge := (List.mem_cons_of_mem _ (List.mem_append_left _ (List.mem_append_left _ (List.mem_append_left _ (List.mem_append_left _ (List.mem_append_left _ (List.mem_append_left _ (List.mem_append_left _ (List.mem_of_getElem? (i := 14) rfl)))))))))
theorem mX11_judge_0_2 : Cond.fieldLink RX11 83 "HissHorn" "looks" "LHissHorn$Looks;" ∈ wsX11_judge := (List.mem_cons_of_mem _ (List.mem_append_left _ (List.mem_append_left _ (List.mem_append_left _ (List.mem_append_left _ (List.mem_append_left _ (List.mem_append_left _ (List.mem_append_left _ (List.mem_of_getElem? (i := 15) rfl)))))))))
theorem mX11_judge_0_3 : Cond.fieldLink RX11 103 "HissHorn" "now" "I" ∈ wsX11_judge := (List.mem_cons_of_mem _ (List.mem_append_left _ (List.mem_append_left _ (List.mem_append_left _ (List.mem_append_left _ (List.mem_append_left _ (List.mem_append_left _ (List.mem_append_left _ (List.mem_of_getElem? (i := 16) rfl)))))))))
def fX11_judge_0 (x1 : Int32) (x2 : Int32) (u : SX) : Option (Int32 × SX) := ((fX7_has_7 x2 u).bind fun q => match q with | (r1, u2) => (if r1 = 0 then (some ((-2), u2)) else ((fX3_areOpen_10 x1 u2).bind fun q => match q with | (r4, u5) => (if r4 = 0 then (some ((-2), u5)) else ((fX3_startRow_10 x2 (u5.1 0) u5).bind fun q => match q with | (r7, u8) => ((fX3_widthBehind_10 x1 u8).bind fun q => match q with | (r10, u11) => (some (r10, u11))))))))
set_option maxHeartbeats 4000000 in
set_option maxRecDepth 100000 in
theorem wX11_judge_0 {p : Program} {l : Launch} {e : Env} {s : State} {m : MethodId} {args : Array Value} {below : List Frame} {meth : Method} {c : Code} {D : va_G} {cy : Nat → ClassId} {ad st : Nat → Nat} (C : Cx RX11 cX11_judge 3 (some .int) wsX11_judge p s m args meth c) (hK : Ky D [(cy 0, .int), (cy 1, .long), (cy 2, .boolean), (cy 3, .byte), (cy 4, .object "HissHorn$Text")] st s) (hJ : JX ad st) (x1 : Int32) (x2 : Int32) {u : SX} {r : Int32} {u' : SX} {H : Heap} {locs : List Loc} {ls : Array Slot} (h : fX11_judge_0 x1 x2 u = some (r, u')) (hP : va_P D vwCl (VX cy ad st u) H) (hS : va_S (Ax (AX ad) s.heap.size) s.heap H locs) (hl : lv_has ls 3 [(0, .ref (ad 0)), (1, .int x1), (2, .int x2)]) : W p l e rmX11_judge_0 s m args below meth c H locs 0 0 (MQ below (Qi D (VX cy ad st) (AX ad) s.heap.size r u') args s 0 0 (Ax (AX ad) s.heap.size)) (F0 m 0 ls []) := by
  unfold fX11_judge_0 at h
  refine lv_aload_n C.1 C.2.1 dX11_judge_0 rfl (lv_at hl 0 rfl) ?_
  refine gX_0_readings C hX11_judge_0_X11 hK hP mX11_judge_0_1 dX11_judge_1 ?_
  refine lv_iload_n C.1 C.2.1 dX11_judge_4 rfl (lv_at hl 2 rfl) ?_
  obtain ⟨⟨r1, u2⟩, hc3, h⟩ := bd_some h
  try dsimp only at h
  refine cg_i (As := [.int x2]) (rest := []) (AX_ge hJ) C hK hP hS (metX7_has_7 l D cy ad st hJ _ x2 hc3) (cwV 1 C.2.2.2.2.2.1 gX11_judge_X7_has rfl rfl rfl (by decide +kernel) ⟨(Nat.le_of_ble_eq_true rfl), (Nat.le_of_ble_eq_true rfl)⟩) 7 7 rfl rfl rfl hl.1 rfl (Nat.le_of_ble_eq_true rfl) dX11_judge_5 ⟨Nat.zero_le _, Nat.zero_le _⟩ (fun H locs hP hS => ?_)
  refine lv_if_eq (tgt := 22) C.1 C.2.1 dX11_judge_8 (by decide) (fun c8 => ?_) (fun c8 => ?_)
  · rw [if_pos c8] at h
    refine lv_bipush (v := (-2)) C.1 C.2.1 dX11_judge_22 (by decide) ?_
    cases h
    exact rt_i C hP hS dX11_judge_24
  · rw [if_neg c8] at h
    refine lv_aload_n C.1 C.2.1 dX11_judge_11 rfl (lv_at hl 0 rfl) ?_
    refine gX_0_looks C hX11_judge_0_X11 hK hP mX11_judge_0_2 dX11_judge_12 ?_
    refine lv_iload_n C.1 C.2.1 dX11_judge_15 rfl (lv_at hl 1 rfl) ?_
    obtain ⟨⟨r4, u5⟩, hc6, h⟩ := bd_some h
    try dsimp only at h
    refine cg_i (As := [.int x1]) (rest := []) (AX_ge hJ) C hK hP hS (metX3_areOpen_10 l D cy ad st hJ _ x1 hc6) (cwV 1 C.2.2.2.2.2.1 gX11_judge_X3_areOpen rfl rfl rfl (by decide +kernel) ⟨(Nat.le_of_ble_eq_true rfl), (Nat.le_of_ble_eq_true rfl)⟩) 10 3 rfl rfl rfl hl.1 rfl (Nat.le_of_ble_eq_true rfl) dX11_judge_16 ⟨Nat.zero_le _, Nat.zero_le _⟩ (fun H locs hP hS => ?_)
    refine lv_if_ne (tgt := 25) C.1 C.2.1 dX11_judge_19 (by decide) (fun c19 => ?_) (fun c19 => ?_)
    · rw [if_neg c19] at h
      refine lv_aload_n C.1 C.2.1 dX11_judge_25 rfl (lv_at hl 0 rfl) ?_
      refine gX_0_looks C hX11_judge_0_X11 hK hP mX11_judge_0_2 dX11_judge_26 ?_
      refine lv_iload_n C.1 C.2.1 dX11_judge_29 rfl (lv_at hl 2 rfl) ?_
      refine lv_aload_n C.1 C.2.1 dX11_judge_30 rfl (lv_at hl 0 rfl) ?_
      refine gX_0_now C hX11_judge_0_X11 hK hP mX11_judge_0_3 dX11_judge_31 ?_
      obtain ⟨⟨r7, u8⟩, hc9, h⟩ := bd_some h
      try dsimp only at h
      refine cg_v (As := [.int x2, .int (u5.1 0)]) (rest := []) (AX_ge hJ) C hK hP hS (metX3_startRow_10 l D cy ad st hJ _ x2 (u5.1 0) hc9) (cwV 2 C.2.2.2.2.2.1 gX11_judge_X3_startRow rfl rfl rfl (by decide +kernel) ⟨(Nat.le_of_ble_eq_true rfl), (Nat.le_of_ble_eq_true rfl)⟩) 10 3 rfl rfl rfl hl.1 rfl (Nat.le_of_ble_eq_true rfl) dX11_judge_34 ⟨Nat.zero_le _, Nat.zero_le _⟩ (fun H locs hP hS => ?_)
      refine lv_aload_n C.1 C.2.1 dX11_judge_37 rfl (lv_at hl 0 rfl) ?_
      refine gX_0_looks C hX11_judge_0_X11 hK hP mX11_judge_0_2 dX11_judge_38 ?_
      refine lv_iload_n C.1 C.2.1 dX11_judge_41 rfl (lv_at hl 1 rfl) ?_
      obtain ⟨⟨r10, u11⟩, hc12, h⟩ := bd_some h
      try dsimp only at h
      refine cg_i (As := [.int x1]) (rest := []) (AX_ge hJ) C hK hP hS (metX3_widthBehind_10 l D cy ad st hJ _ x1 hc12) (cwV 1 C.2.2.2.2.2.1 gX11_judge_X3_widthBehind rfl rfl rfl (by decide +kernel) ⟨(Nat.le_of_ble_eq_true rfl), (Nat.le_of_ble_eq_true rfl)⟩) 10 3 rfl rfl rfl hl.1 rfl (Nat.le_of_ble_eq_true rfl) dX11_judge_42 ⟨Nat.zero_le _, Nat.zero_le _⟩ (fun H locs hP hS => ?_)
      cases h
      exact rt_i C hP hS dX11_judge_45
    · rw [if_pos c19] at h
      refine lv_bipush (v := (-2)) C.1 C.2.1 dX11_judge_22 (by decide) ?_
      cases h
      exact rt_i C hP hS dX11_judge_24
theorem metX11_judge_0 (l : Launch) (D : va_G) (cy : Nat → ClassId) (ad st : Nat → Nat) (hJ : JX ad st) (sz : Nat) (x1 : Int32) (x2 : Int32) {u : SX} {r : Int32} {u' : SX} (h : fX11_judge_0 x1 x2 u = some (r, u')) : Met l yX11_judge wsX11_judge rmX11_judge_0 (va_Pc [.ref (ad 0), .int x1, .int x2] (Px D [(cy 0, .int), (cy 1, .long), (cy 2, .boolean), (cy 3, .byte), (cy 4, .object "HissHorn$Text")] st (VX cy ad st) sz u)) (Qi D (VX cy ad st) (AX ad) sz r u') 0 0 (Ax (AX ad) sz) := by
  refine Met.ofW (cc := cX11_judge) (maxL := 3) (ret := (some .int)) (by decide) rfl ?_
  intro p e s m args below meth c s₁ B hml hv
  obtain ⟨rfl, hsz, hP, hK⟩ := hv
  subst hsz
  have C : Cx RX11 cX11_judge 3 (some .int) wsX11_judge p s m _ meth c := ⟨B.exec, B.bytes, hml, B.returns, findClass_of_methodNamed B.named, atoms_spec (ws := wsX11_judge) B.pre, B.notSynchronized⟩
  have hl := lv_entry ([.ref (ad 0), .int x1, .int x2]) (n := 3) (Nat.le_of_ble_eq_true rfl)
  rw [lg_entry_eq]
  exact wX11_judge_0 C hK hJ x1 x2 h hP va_S.rf hl

theorem zdX11_leans_0 : (and (and (and (and (and (zk cX11_leans 0 (.aload_n 0) 1) (zk cX11_leans 1 (.getfield 58) 3)) (zk cX11_leans 4 (.iload_n 1) 1)) (and (zk cX11_leans 5 (.invokevirtual 212) 3) (zk cX11_leans 8 (.ifCond .eq 26) 3))) (and (and (zk cX11_leans 34 (.ldc 194) 2) (zk cX11_leans 36 (.ireturn) 1)) (and (zk cX11_leans 11 (.aload_n 0) 1) (zk cX11_leans 12 (.getfield 49) 3)))) (and (and (and (and (zk cX11_leans 15 (.iload_n 2) 1) (zk cX11_leans 16 (.invokevirtual 180) 3)) (zk cX11_leans 19 (.ifCond .eq 15) 3)) (and (zk cX11_leans 22 (.aload_n 0) 1) (zk cX11_leans 23 (.getfield 58) 3))) (and (and (zk cX11_leans 26 (.iload_n 1) 1) (zk cX11_leans 27 (.iload_n 2) 1)) (and (zk cX11_leans 28 (.invokevirtual 297) 3) (zk cX11_leans 31 (.goto 5) 3))))) = true := by decide +kernel
theorem dX11_leans_0 : decode cX11_leans 0 = .ok (.aload_n 0, 1) := zk_of (zk_l (zk_l (zk_l (zk_l (zk_l zdX11_leans_0)))))
theorem dX11_leans_1 : decode cX11_leans 1 = .ok (.getfield 58, 3) := zk_of (zk_r (zk_l (zk_l (zk_l (zk_l zdX11_leans_0)))))
theorem dX11_leans_4 : decode cX11_leans 4 = .ok (.iload_n 1, 1) := zk_of (zk_r (zk_l (zk_l (zk_l zdX11_leans_0))))
theorem dX11_leans_5 : decode cX11_leans 5 = .ok (.invokevirtual 212, 3) := zk_of (zk_l (zk_r (zk_l (zk_l zdX11_leans_0))))
theorem dX11_leans_8 : decode cX11_leans 8 = .ok (.ifCond .eq 26, 3) := zk_of (zk_r (zk_r (zk_l (zk_l zdX11_leans_0))))
theorem dX11_leans_34 : decode cX11_leans 34 = .ok (.ldc 194, 2) := zk_of (zk_l (zk_l (zk_r (zk_l zdX11_leans_0))))
theorem dX11_leans_36 : decode cX11_leans 36 = .ok (.ireturn, 1) := zk_of (zk_r (zk_l (zk_r (zk_l zdX11_leans_0))))
theorem dX11_leans_11 : decode cX11_leans 11 = .ok (.aload_n 0, 1) := zk_of (zk_l (zk_r (zk_r (zk_l zdX11_leans_0))))
theorem dX11_leans_12 : decode cX11_leans 12 = .ok (.getfield 49, 3) := zk_of (zk_r (zk_r (zk_r (zk_l zdX11_leans_0))))
theorem dX11_leans_15 : decode cX11_leans 15 = .ok (.iload_n 2, 1) := zk_of (zk_l (zk_l (zk_l (zk_l (zk_r zdX11_leans_0)))))
theorem dX11_leans_16 : decode cX11_leans 16 = .ok (.invokevirtual 180, 3) := zk_of (zk_r (zk_l (zk_l (zk_l (zk_r zdX11_leans_0)))))
theorem dX11_leans_19 : decode cX11_leans 19 = .ok (.ifCond .eq 15, 3) := zk_of (zk_r (zk_l (zk_l (zk_r zdX11_leans_0))))
theorem dX11_leans_22 : decode cX11_leans 22 = .ok (.aload_n 0, 1) := zk_of (zk_l (zk_r (zk_l (zk_r zdX11_leans_0))))
theorem dX11_leans_23 : decode cX11_leans 23 = .ok (.getfield 58, 3) := zk_of (zk_r (zk_r (zk_l (zk_r zdX11_leans_0))))
theorem dX11_leans_26 : decode cX11_leans 26 = .ok (.iload_n 1, 1) := zk_of (zk_l (zk_l (zk_r (zk_r zdX11_leans_0))))
theorem dX11_leans_27 : decode cX11_leans 27 = .ok (.iload_n 2, 1) := zk_of (zk_r (zk_l (zk_r (zk_r zdX11_leans_0))))
theorem dX11_leans_28 : decode cX11_leans 28 = .ok (.invokevirtual 297, 3) := zk_of (zk_l (zk_r (zk_r (zk_r zdX11_leans_0))))
theorem dX11_leans_31 : decode cX11_leans 31 = .ok (.goto 5, 3) := zk_of (zk_r (zk_r (zk_r (zk_r zdX11_leans_0))))
set_option maxRecDepth 20000 in
theorem ggX11_leans_X7_has : GoodIn wsX11_leans wsX7_has := ggi (fun w h => List.mem_cons_of_mem _ (List.mem_append_left _ (List.mem_append_left _ (List.mem_append_left _ (List.mem_append_left _ (List.mem_append_left _ (List.mem_append_right _ (List.mem_append_left _ h)))))))) gs_X7_has
set_option maxRecDepth 20000 in
theorem gX11_leans_X7_has : GoodIn wsX11_leans (wsV RX11 212 RX7 yX7_has wsX7_has) := goodIn_app (goodIn_of _ (by decide +kernel)) ggX11_leans_X7_has
set_option maxRecDepth 20000 in
theorem ggX11_leans_X6_has : GoodIn wsX11_leans wsX6_has := ggi (fun w h => List.mem_cons_of_mem _ (List.mem_append_left _ (List.mem_append_left _ (List.mem_append_left _ (List.mem_append_left _ (List.mem_append_left _ (List.mem_append_right _ (List.mem_append_right _ (List.mem_append_left _ h))))))))) gs_X6_has
set_option maxRecDepth 20000 in
theorem gX11_leans_X6_has : GoodIn wsX11_leans (wsV RX11 180 RX6 yX6_has wsX6_has) := goodIn_app (goodIn_of _ (by decide +kernel)) ggX11_leans_X6_has
set_option maxRecDepth 20000 in
theorem ggX11_leans_X7_leanOf : GoodIn wsX11_leans wsX7_leanOf := ggi (fun w h => List.mem_cons_of_mem _ (List.mem_append_left _ (List.mem_append_left _ (List.mem_append_left _ (List.mem_append_left _ (List.mem_append_left _ (List.mem_append_right _ (List.mem_append_right _ (List.mem_append_right _ h))))))))) gs_X7_leanOf
set_option maxRecDepth 20000 in
theorem gX11_leans_X7_leanOf : GoodIn wsX11_leans (wsV RX11 297 RX7 yX7_leanOf wsX7_leanOf) := goodIn_app (goodIn_of _ (by decide +kernel)) ggX11_leans_X7_leanOf
/-- HissHorn.leans(II)I of cell 0 -/
def rmX11_leans_0 : Room := { frames := 5, cells := 0, slots := 0, locals := 111 }
theorem hX11_leans_0_X11 : ∀ w ∈ u_ws RX11 TX11 13, w ∈ wsX11_leans := fun w h => (List.mem_cons_of_mem _ (List.mem_append_left _ (List.mem_append_left _ (List.mem_append_left _ (List.mem_append_left _ (List.mem_append_right _ h))))))
theorem mX11_leans_0_1 : Cond.fieldLink RX11 58 "HissHorn" "readings" "LHissHorn$Readings;" ∈ wsX11_leans := (List.mem_cons_of_mem _ (List.mem_append_left _ (List.mem_append_left _ (List.mem_append_left _ (List.mem_append_left _ (List.mem_append_left _ (List.mem_append_left _ (List.mem_of_getElem? (i := 11) rfl))))))))
theorem mX11_leans_0_2 : Cond.constant RX11 194 (-100000000) ∈ wsX11_leans := (List.mem_cons_of_mem _ (List.mem_append_left _ (List.mem_append_left _ (List.mem_append_left _ (List.mem_append_left _ (List.mem_append_left _ (List.mem_append_left _ (List.mem_of_getElem? (i := 12) rfl))))))))
theorem mX11_leans_0_3 : Cond.fieldLink RX11 49 "HissHorn" "parts" "LHissHorn$Parts;" ∈ wsX11_leans := (List.mem_cons_of_mem _ (List.mem_append_left _ (List.mem_append_left _ (List.mem_append_left _ (List.mem_append_left _ (List.mem_append_left _ (List.mem_append_left _ (List.mem_of_getElem? (i := 13) rfl))))))))
def fX11_leans_0 (x1 : Int32) (x2 : Int32) (u : SX) : Option (Int32 × SX) := ((fX7_has_7 x1 u).bind fun q => match q with | (r1, u2) => (if r1 = 0 then (some ((-100000000), u2)) else ((fX6_has_6 x2 u2).bind fun q => match q with | (r4, u5) => (if r4 = 0 then (some ((-100000000), u5)) else ((fX7_leanOf_7 x1 x2 u5).bind fun q => match q with | (r7, u8) => (some (r7, u8)))))))
set_option maxHeartbeats 4000000 in
set_option maxRecDepth 100000 in
theorem wX11_leans_0 {p : Program} {l : Launch} {e : Env} {s : State} {m : MethodId} {args : Array Value} {below : List Frame} {meth : Method} {c : Code} {D : va_G} {cy : Nat → ClassId} {ad st : Nat → Nat} (C : Cx RX11 cX11_leans 3 (some .int) wsX11_leans p s m args meth c) (hK : Ky D [(cy 0, .int), (cy 1, .long), (cy 2, .boolean), (cy 3, .byte), (cy 4, .object "HissHorn$Text")] st s) (hJ : JX ad st) (x1 : Int32) (x2 : Int32) {u : SX} {r : Int32} {u' : SX} {H : Heap} {locs : List Loc} {ls : Array Slot} (h : fX11_leans_0 x1 x2 u = some (r, u')) (hP : va_P D vwCl (VX cy ad st u) H) (hS : va_S (Ax (AX ad) s.heap.size) s.heap H locs) (hl : lv_has ls 3 [(0, .ref (ad 0)), (1, .int x1), (2, .int x2)]) : W p l e rmX11_leans_0 s m args below meth c H locs 0 0 (MQ below (Qi D (VX cy ad st) (AX ad) s.heap.size r u') args s 0 0 (Ax (AX ad) s.heap.size)) (F0 m 0 ls []) := by
  unfold fX11_leans_0 at h
  refine lv_aload_n C.1 C.2.1 dX11_leans_0 rfl (lv_at hl 0 rfl) ?_
  refine gX_0_readings C hX11_leans_0_X11 hK hP mX11_leans_0_1 dX11_leans_1 ?_
  refine lv_iload_n C.1 C.2.1 dX11_leans_4 rfl (lv_at hl 1 rfl) ?_
  obtain ⟨⟨r1, u2⟩, hc3, h⟩ := bd_some h
  try dsimp only at h
  refine cg_i (As := [.int x1]) (rest := []) (AX_ge hJ) C hK hP hS (metX7_has_7 l D cy ad st hJ _ x1 hc3) (cwV 1 C.2.2.2.2.2.1 gX11_leans_X7_has rfl rfl rfl (by decide +kernel) ⟨(Nat.le_of_ble_eq_true rfl), (Nat.le_of_ble_eq_true rfl)⟩) 7 7 rfl rfl rfl hl.1 rfl (Nat.le_of_ble_eq_true rfl) dX11_leans_5 ⟨Nat.zero_le _, Nat.zero_le _⟩ (fun H locs hP hS => ?_)
  refine lv_if_eq (tgt := 34) C.1 C.2.1 dX11_leans_8 (by decide) (fun c8 => ?_) (fun c8 => ?_)
  · rw [if_pos c8] at h
    refine lv_ldc C.1 C.2.1 C.2.2.2.2.1 (C.2.2.2.2.2.1 _ mX11_leans_0_2) dX11_leans_34 ?_
    cases h
    exact rt_i C hP hS dX11_leans_36
  · rw [if_neg c8] at h
    refine lv_aload_n C.1 C.2.1 dX11_leans_11 rfl (lv_at hl 0 rfl) ?_
    refine gX_0_parts C hX11_leans_0_X11 hK hP mX11_leans_0_3 dX11_leans_12 ?_
    refine lv_iload_n C.1 C.2.1 dX11_leans_15 rfl (lv_at hl 2 rfl) ?_
    obtain ⟨⟨r4, u5⟩, hc6, h⟩ := bd_some h
    try dsimp only at h
    refine cg_i (As := [.int x2]) (rest := []) (AX_ge hJ) C hK hP hS (metX6_has_6 l D cy ad st hJ _ x2 hc6) (cwV 1 C.2.2.2.2.2.1 gX11_leans_X6_has rfl rfl rfl (by decide +kernel) ⟨(Nat.le_of_ble_eq_true rfl), (Nat.le_of_ble_eq_true rfl)⟩) 6 6 rfl rfl rfl hl.1 rfl (Nat.le_of_ble_eq_true rfl) dX11_leans_16 ⟨Nat.zero_le _, Nat.zero_le _⟩ (fun H locs hP hS => ?_)
    refine lv_if_eq (tgt := 34) C.1 C.2.1 dX11_leans_19 (by decide) (fun c19 => ?_) (fun c19 => ?_)
    · rw [if_pos c19] at h
      refine lv_ldc C.1 C.2.1 C.2.2.2.2.1 (C.2.2.2.2.2.1 _ mX11_leans_0_2) dX11_leans_34 ?_
      cases h
      exact rt_i C hP hS dX11_leans_36
    · rw [if_neg c19] at h
      refine lv_aload_n C.1 C.2.1 dX11_leans_22 rfl (lv_at hl 0 rfl) ?_
      refine gX_0_readings C hX11_leans_0_X11 hK hP mX11_leans_0_1 dX11_leans_23 ?_
      refine lv_iload_n C.1 C.2.1 dX11_leans_26 rfl (lv_at hl 1 rfl) ?_
      refine lv_iload_n C.1 C.2.1 dX11_leans_27 rfl (lv_at hl 2 rfl) ?_
      obtain ⟨⟨r7, u8⟩, hc9, h⟩ := bd_some h
      try dsimp only at h
      refine cg_i (As := [.int x1, .int x2]) (rest := []) (AX_ge hJ) C hK hP hS (metX7_leanOf_7 l D cy ad st hJ _ x1 x2 hc9) (cwV 2 C.2.2.2.2.2.1 gX11_leans_X7_leanOf rfl rfl rfl (by decide +kernel) ⟨(Nat.le_of_ble_eq_true rfl), (Nat.le_of_ble_eq_true rfl)⟩) 7 7 rfl rfl rfl hl.1 rfl (Nat.le_of_ble_eq_true rfl) dX11_leans_28 ⟨Nat.zero_le _, Nat.zero_le _⟩ (fun H locs hP hS => ?_)
      refine lv_goto (tgt := 36) C.1 C.2.1 dX11_leans_31 (by decide) ?_
      cases h
      exact rt_i C hP hS dX11_leans_36
theorem metX11_leans_0 (l : Launch) (D : va_G) (cy : Nat → ClassId) (ad st : Nat → Nat) (hJ : JX ad st) (sz : Nat) (x1 : Int32) (x2 : Int32) {u : SX} {r : Int32} {u' : SX} (h : fX11_leans_0 x1 x2 u = some (r, u')) : Met l yX11_leans wsX11_leans rmX11_leans_0 (va_Pc [.ref (ad 0), .int x1, .int x2] (Px D [(cy 0, .int), (cy 1, .long), (cy 2, .boolean), (cy 3, .byte), (cy 4, .object "HissHorn$Text")] st (VX cy ad st) sz u)) (Qi D (VX cy ad st) (AX ad) sz r u') 0 0 (Ax (AX ad) sz) := by
  refine Met.ofW (cc := cX11_leans) (maxL := 3) (ret := (some .int)) (by decide) rfl ?_
  intro p e s m args below meth c s₁ B hml hv
  obtain ⟨rfl, hsz, hP, hK⟩ := hv
  subst hsz
  have C : Cx RX11 cX11_leans 3 (some .int) wsX11_leans p s m _ meth c := ⟨B.exec, B.bytes, hml, B.returns, findClass_of_methodNamed B.named, atoms_spec (ws := wsX11_leans) B.pre, B.notSynchronized⟩
  have hl := lv_entry ([.ref (ad 0), .int x1, .int x2]) (n := 3) (Nat.le_of_ble_eq_true rfl)
  rw [lg_entry_eq]
  exact wX11_leans_0 C hK hJ x1 x2 h hP va_S.rf hl

/-- HissHorn$Shelf.has(I)Z of cell 4 -/
def rmX8_has_4 : Room := { frames := 0, cells := 0, slots := 0, locals := 0 }
theorem hX8_has_4_X8 : ∀ w ∈ u_ws RX8 TX8 5, w ∈ wsX8_has := fun w h => (List.mem_cons_of_mem _ (List.mem_append_right _ h))
theorem mX8_has_4_1 : Cond.fieldLink RX8 36 "HissHorn$Shelf" "size" "I" ∈ wsX8_has := (List.mem_cons_of_mem _ (List.mem_append_left _ (List.mem_of_getElem? (i := 0) rfl)))
def fX8_has_4 (x1 : Int32) (u : SX) : Option (Int32 × SX) := (if x1 < 0 then (gd (isB 0) (some (0, u))) else (if (u.1 6) ≤ x1 then (gd (isB 0) (some (0, u))) else (gd (isB 1) (some (1, u)))))
set_option maxHeartbeats 4000000 in
set_option maxRecDepth 100000 in
theorem wX8_has_4 {p : Program} {l : Launch} {e : Env} {s : State} {m : MethodId} {args : Array Value} {below : List Frame} {meth : Method} {c : Code} {D : va_G} {cy : Nat → ClassId} {ad st : Nat → Nat} (C : Cx RX8 cX8_has 2 (some .boolean) wsX8_has p s m args meth c) (hK : Ky D [(cy 0, .int), (cy 1, .long), (cy 2, .boolean), (cy 3, .byte), (cy 4, .object "HissHorn$Text")] st s) (hJ : JX ad st) (x1 : Int32) {u : SX} {r : Int32} {u' : SX} {H : Heap} {locs : List Loc} {ls : Array Slot} (h : fX8_has_4 x1 u = some (r, u')) (hP : va_P D vwCl (VX cy ad st u) H) (hS : va_S (Ax (AX ad) s.heap.size) s.heap H locs) (hl : lv_has ls 2 [(0, .ref (ad 4)), (1, .int x1)]) : W p l e rmX8_has_4 s m args below meth c H locs 0 0 (MQ below (Qi D (VX cy ad st) (AX ad) s.heap.size r u') args s 0 0 (Ax (AX ad) s.heap.size)) (F0 m 0 ls []) := by
  unfold fX8_has_4 at h
  refine lv_iload_n C.1 C.2.1 dX8_has_0 rfl (lv_at hl 1 rfl) ?_
  refine lv_if_lt (tgt := 16) C.1 C.2.1 dX8_has_1 (by decide) (fun c1 => ?_) (fun c1 => ?_)
  · rw [if_pos c1] at h
    refine lv_iconst (v := 0) C.1 C.2.1 dX8_has_16 (by decide) ?_
    obtain ⟨hg1, h⟩ := gd_some h
    cases h
    exact rt_z hg1 C hP hS dX8_has_17
  · rw [if_neg c1] at h
    refine lv_iload_n C.1 C.2.1 dX8_has_4 rfl (lv_at hl 1 rfl) ?_
    refine lv_aload_n C.1 C.2.1 dX8_has_5 rfl (lv_at hl 0 rfl) ?_
    refine gX_4_size C hX8_has_4_X8 hK hP mX8_has_4_1 dX8_has_6 ?_
    refine lv_icmp_ge (tgt := 16) C.1 C.2.1 dX8_has_9 (by decide) (fun c9 => ?_) (fun c9 => ?_)
    · rw [if_pos c9] at h
      refine lv_iconst (v := 0) C.1 C.2.1 dX8_has_16 (by decide) ?_
      obtain ⟨hg2, h⟩ := gd_some h
      cases h
      exact rt_z hg2 C hP hS dX8_has_17
    · rw [if_neg c9] at h
      refine lv_iconst (v := 1) C.1 C.2.1 dX8_has_12 (by decide) ?_
      refine lv_goto (tgt := 17) C.1 C.2.1 dX8_has_13 (by decide) ?_
      obtain ⟨hg3, h⟩ := gd_some h
      cases h
      exact rt_z hg3 C hP hS dX8_has_17
theorem metX8_has_4 (l : Launch) (D : va_G) (cy : Nat → ClassId) (ad st : Nat → Nat) (hJ : JX ad st) (sz : Nat) (x1 : Int32) {u : SX} {r : Int32} {u' : SX} (h : fX8_has_4 x1 u = some (r, u')) : Met l yX8_has wsX8_has rmX8_has_4 (va_Pc [.ref (ad 4), .int x1] (Px D [(cy 0, .int), (cy 1, .long), (cy 2, .boolean), (cy 3, .byte), (cy 4, .object "HissHorn$Text")] st (VX cy ad st) sz u)) (Qi D (VX cy ad st) (AX ad) sz r u') 0 0 (Ax (AX ad) sz) := by
  refine Met.ofW (cc := cX8_has) (maxL := 2) (ret := (some .boolean)) (by decide) rfl ?_
  intro p e s m args below meth c s₁ B hml hv
  obtain ⟨rfl, hsz, hP, hK⟩ := hv
  subst hsz
  have C : Cx RX8 cX8_has 2 (some .boolean) wsX8_has p s m _ meth c := ⟨B.exec, B.bytes, hml, B.returns, findClass_of_methodNamed B.named, atoms_spec (ws := wsX8_has) B.pre, B.notSynchronized⟩
  have hl := lv_entry ([.ref (ad 4), .int x1]) (n := 2) (Nat.le_of_ble_eq_true rfl)
  rw [lg_entry_eq]
  exact wX8_has_4 C hK hJ x1 h hP va_S.rf hl

theorem zdX1_boundWaves_133 : (and (and (and (and (and (zk cX1_boundWaves 133 (.iastore) 1) (zk cX1_boundWaves 134 (.aload_n 0) 1)) (and (zk cX1_boundWaves 135 (.getfield 15) 3) (zk cX1_boundWaves 138 (.iload_n 2) 1))) (and (and (zk cX1_boundWaves 139 (.dup2) 1) (zk cX1_boundWaves 140 (.iaload) 1)) (and (zk cX1_boundWaves 141 (.iconst 1) 1) (zk cX1_boundWaves 142 (.iadd) 1)))) (and (and (and (zk cX1_boundWaves 143 (.iastore) 1) (zk cX1_boundWaves 144 (.iinc 1 1) 3)) (and (zk cX1_boundWaves 147 (.goto (-137)) 3) (zk cX1_boundWaves 93 (.iastore) 1))) (and (and (zk cX1_boundWaves 94 (.aload_n 0) 1) (zk cX1_boundWaves 95 (.getfield 22) 3)) (and (zk cX1_boundWaves 98 (.iload_n 2) 1) (zk cX1_boundWaves 99 (.iload_n 3) 1))))) (and (and (and (and (zk cX1_boundWaves 100 (.ifCond .eq 15) 3) (zk cX1_boundWaves 115 (.aload_n 0) 1)) (and (zk cX1_boundWaves 116 (.getfield 22) 3) (zk cX1_boundWaves 119 (.iload_n 2) 1))) (and (and (zk cX1_boundWaves 120 (.iaload) 1) (zk cX1_boundWaves 121 (.aload_n 0) 1)) (and (zk cX1_boundWaves 122 (.getfield 25) 3) (zk cX1_boundWaves 125 (.getfield 45) 3)))) (and (and (and (zk cX1_boundWaves 128 (.iload_n 1) 1) (zk cX1_boundWaves 129 (.iaload) 1)) (and (zk cX1_boundWaves 130 (.invokestatic 57) 3) (zk cX1_boundWaves 103 (.aload_n 0) 1))) (and (and (zk cX1_boundWaves 104 (.getfield 25) 3) (zk cX1_boundWaves 107 (.getfield 45) 3)) (and (zk cX1_boundWaves 110 (.iload_n 1) 1) (zk cX1_boundWaves 111 (.iaload) 1)))))) = true := by decide +kernel
theorem dX1_boundWaves_133 : decode cX1_boundWaves 133 = .ok (.iastore, 1) := zk_of (zk_l (zk_l (zk_l (zk_l (zk_l zdX1_boundWaves_133)))))
theorem dX1_boundWaves_134 : decode cX1_boundWaves 134 = .ok (.aload_n 0, 1) := zk_of (zk_r (zk_l (zk_l (zk_l (zk_l zdX1_boundWaves_133)))))
theorem dX1_boundWaves_135 : decode cX1_boundWaves 135 = .ok (.getfield 15, 3) := zk_of (zk_l (zk_r (zk_l (zk_l (zk_l zdX1_boundWaves_133)))))
theorem dX1_boundWaves_138 : decode cX1_boundWaves 138 = .ok (.iload_n 2, 1) := zk_of (zk_r (zk_r (zk_l (zk_l (zk_l zdX1_boundWaves_133)))))
theorem dX1_boundWaves_139 : decode cX1_boundWaves 139 = .ok (.dup2, 1) := zk_of (zk_l (zk_l (zk_r (zk_l (zk_l zdX1_boundWaves_133)))))
theorem dX1_boundWaves_140 : decode cX1_boundWaves 140 = .ok (.iaload, 1) := zk_of (zk_r (zk_l (zk_r (zk_l (zk_l zdX1_boundWaves_133)))))
theorem dX1_boundWaves_141 : decode cX1_boundWaves 141 = .ok (.iconst 1, 1) := zk_of (zk_l (zk_r (zk_r (zk_l (zk_l zdX1_boundWaves_133)))))
theorem dX1_boundWaves_142 : decode cX1_boundWaves 142 = .ok (.iadd, 1) := zk_of (zk_r (zk_r (zk_r (zk_l (zk_l zdX1_boundWaves_133)))))
theorem dX1_boundWaves_143 : decode cX1_boundWaves 143 = .ok (.iastore, 1) := zk_of (zk_l (zk_l (zk_l (zk_r (zk_l zdX1_boundWaves_133)))))
theorem dX1_boundWaves_144 : decode cX1_boundWaves 144 = .ok (.iinc 1 1, 3) := zk_of (zk_r (zk_l (zk_l (zk_r (zk_l zdX1_boundWaves_133)))))
theorem dX1_boundWaves_147 : decode cX1_boundWaves 147 = .ok (.goto (-137), 3) := zk_of (zk_l (zk_r (zk_l (zk_r (zk_l zdX1_boundWaves_133)))))
theorem dX1_boundWaves_93 : decode cX1_boundWaves 93 = .ok (.iastore, 1) := zk_of (zk_r (zk_r (zk_l (zk_r (zk_l zdX1_boundWaves_133)))))
theorem dX1_boundWaves_94 : decode cX1_boundWaves 94 = .ok (.aload_n 0, 1) := zk_of (zk_l (zk_l (zk_r (zk_r (zk_l zdX1_boundWaves_133)))))
theorem dX1_boundWaves_95 : decode cX1_boundWaves 95 = .ok (.getfield 22, 3) := zk_of (zk_r (zk_l (zk_r (zk_r (zk_l zdX1_boundWaves_133)))))
theorem dX1_boundWaves_98 : decode cX1_boundWaves 98 = .ok (.iload_n 2, 1) := zk_of (zk_l (zk_r (zk_r (zk_r (zk_l zdX1_boundWaves_133)))))
theorem dX1_boundWaves_99 : decode cX1_boundWaves 99 = .ok (.iload_n 3, 1) := zk_of (zk_r (zk_r (zk_r (zk_r (zk_l zdX1_boundWaves_133)))))
theorem dX1_boundWaves_100 : decode cX1_boundWaves 100 = .ok (.ifCond .eq 15, 3) := zk_of (zk_l (zk_l (zk_l (zk_l (zk_r zdX1_boundWaves_133)))))
theorem dX1_boundWaves_115 : decode cX1_boundWaves 115 = .ok (.aload_n 0, 1) := zk_of (zk_r (zk_l (zk_l (zk_l (zk_r zdX1_boundWaves_133)))))
theorem dX1_boundWaves_116 : decode cX1_boundWaves 116 = .ok (.getfield 22, 3) := zk_of (zk_l (zk_r (zk_l (zk_l (zk_r zdX1_boundWaves_133)))))
theorem dX1_boundWaves_119 : decode cX1_boundWaves 119 = .ok (.iload_n 2, 1) := zk_of (zk_r (zk_r (zk_l (zk_l (zk_r zdX1_boundWaves_133)))))
theorem dX1_boundWaves_120 : decode cX1_boundWaves 120 = .ok (.iaload, 1) := zk_of (zk_l (zk_l (zk_r (zk_l (zk_r zdX1_boundWaves_133)))))
theorem dX1_boundWaves_121 : decode cX1_boundWaves 121 = .ok (.aload_n 0, 1) := zk_of (zk_r (zk_l (zk_r (zk_l (zk_r zdX1_boundWaves_133)))))
theorem dX1_boundWaves_122 : decode cX1_boundWaves 122 = .ok (.getfield 25, 3) := zk_of (zk_l (zk_r (zk_r (zk_l (zk_r zdX1_boundWaves_133)))))
theorem dX1_boundWaves_125 : decode cX1_boundWaves 125 = .ok (.getfield 45, 3) := zk_of (zk_r (zk_r (zk_r (zk_l (zk_r zdX1_boundWaves_133)))))
theorem dX1_boundWaves_128 : decode cX1_boundWaves 128 = .ok (.iload_n 1, 1) := zk_of (zk_l (zk_l (zk_l (zk_r (zk_r zdX1_boundWaves_133)))))
theorem dX1_boundWaves_129 : decode cX1_boundWaves 129 = .ok (.iaload, 1) := zk_of (zk_r (zk_l (zk_l (zk_r (zk_r zdX1_boundWaves_133)))))
theorem dX1_boundWaves_130 : decode cX1_boundWaves 130 = .ok (.invokestatic 57, 3) := zk_of (zk_l (zk_r (zk_l (zk_r (zk_r zdX1_boundWaves_133)))))
theorem dX1_boundWaves_103 : decode cX1_boundWaves 103 = .ok (.aload_n 0, 1) := zk_of (zk_r (zk_r (zk_l (zk_r (zk_r zdX1_boundWaves_133)))))
theorem dX1_boundWaves_104 : decode cX1_boundWaves 104 = .ok (.getfield 25, 3) := zk_of (zk_l (zk_l (zk_r (zk_r (zk_r zdX1_boundWaves_133)))))
theorem dX1_boundWaves_107 : decode cX1_boundWaves 107 = .ok (.getfield 45, 3) := zk_of (zk_r (zk_l (zk_r (zk_r (zk_r zdX1_boundWaves_133)))))
theorem dX1_boundWaves_110 : decode cX1_boundWaves 110 = .ok (.iload_n 1, 1) := zk_of (zk_l (zk_r (zk_r (zk_r (zk_r zdX1_boundWaves_133)))))
theorem dX1_boundWaves_111 : decode cX1_boundWaves 111 = .ok (.iaload, 1) := zk_of (zk_r (zk_r (zk_r (zk_r (zk_r zdX1_boundWaves_133)))))
theorem zdX1_boundWaves_112 : (and (and (and (and (and (zk cX1_boundWaves 112 (.goto 21) 3) (zk cX1_boundWaves 53 (.istore_n 3) 1)) (and (zk cX1_boundWaves 54 (.aload_n 0) 1) (zk cX1_boundWaves 55 (.getfield 19) 3))) (and (and (zk cX1_boundWaves 58 (.iload_n 2) 1) (zk cX1_boundWaves 59 (.iload_n 3) 1)) (and (zk cX1_boundWaves 60 (.ifCond .eq 15) 3) (zk cX1_boundWaves 75 (.aload_n 0) 1)))) (and (and (and (zk cX1_boundWaves 76 (.getfield 19) 3) (zk cX1_boundWaves 79 (.iload_n 2) 1)) (and (zk cX1_boundWaves 80 (.iaload) 1) (zk cX1_boundWaves 81 (.aload_n 0) 1))) (and (and (zk cX1_boundWaves 82 (.getfield 25) 3) (zk cX1_boundWaves 85 (.getfield 39) 3)) (and (zk cX1_boundWaves 88 (.iload_n 1) 1) (zk cX1_boundWaves 89 (.iaload) 1))))) (and (and (and (and (zk cX1_boundWaves 90 (.invokestatic 51) 3) (zk cX1_boundWaves 63 (.aload_n 0) 1)) (and (zk cX1_boundWaves 64 (.getfield 25) 3) (zk cX1_boundWaves 67 (.getfield 39) 3))) (and (and (zk cX1_boundWaves 70 (.iload_n 1) 1) (zk cX1_boundWaves 71 (.iaload) 1)) (and (zk cX1_boundWaves 72 (.goto 21) 3) (zk cX1_boundWaves 10 (.iload_n 1) 1)))) (and (and (and (zk cX1_boundWaves 11 (.aload_n 0) 1) (zk cX1_boundWaves 12 (.getfield 25) 3)) (and (zk cX1_boundWaves 15 (.getfield 33) 3) (zk cX1_boundWaves 18 (.if_icmp .ge 132) 3))) (and (and (zk cX1_boundWaves 150 (.return_) 1) (zk cX1_boundWaves 21 (.aload_n 0) 1)) (and (zk cX1_boundWaves 22 (.getfield 25) 3) (zk cX1_boundWaves 25 (.getfield 69) 3)))))) = true := by decide +kernel
theorem dX1_boundWaves_112 : decode cX1_boundWaves 112 = .ok (.goto 21, 3) := zk_of (zk_l (zk_l (zk_l (zk_l (zk_l zdX1_boundWaves_112)))))
theorem dX1_boundWaves_53 : decode cX1_boundWaves 53 = .ok (.istore_n 3, 1) := zk_of (zk_r (zk_l (zk_l (zk_l (zk_l zdX1_boundWaves_112)))))
theorem dX1_boundWaves_54 : decode cX1_boundWaves 54 = .ok (.aload_n 0, 1) := zk_of (zk_l (zk_r (zk_l (zk_l (zk_l zdX1_boundWaves_112)))))
theorem dX1_boundWaves_55 : decode cX1_boundWaves 55 = .ok (.getfield 19, 3) := zk_of (zk_r (zk_r (zk_l (zk_l (zk_l zdX1_boundWaves_112)))))
theorem dX1_boundWaves_58 : decode cX1_boundWaves 58 = .ok (.iload_n 2, 1) := zk_of (zk_l (zk_l (zk_r (zk_l (zk_l zdX1_boundWaves_112)))))
theorem dX1_boundWaves_59 : decode cX1_boundWaves 59 = .ok (.iload_n 3, 1) := zk_of (zk_r (zk_l (zk_r (zk_l (zk_l zdX1_boundWaves_112)))))
theorem dX1_boundWaves_60 : decode cX1_boundWaves 60 = .ok (.ifCond .eq 15, 3) := zk_of (zk_l (zk_r (zk_r (zk_l (zk_l zdX1_boundWaves_112)))))
theorem dX1_boundWaves_75 : decode cX1_boundWaves 75 = .ok (.aload_n 0, 1) := zk_of (zk_r (zk_r (zk_r (zk_l (zk_l zdX1_boundWaves_112)))))
theorem dX1_boundWaves_76 : decode cX1_boundWaves 76 = .ok (.getfield 19, 3) := zk_of (zk_l (zk_l (zk_l (zk_r (zk_l zdX1_boundWaves_112)))))
theorem dX1_boundWaves_79 : decode cX1_boundWaves 79 = .ok (.iload_n 2, 1) := zk_of (zk_r (zk_l (zk_l (zk_r (zk_l zdX1_boundWaves_112)))))
theorem dX1_boundWaves_80 : decode cX1_boundWaves 80 = .ok (.iaload, 1) := zk_of (zk_l (zk_r (zk_l (zk_r (zk_l zdX1_boundWaves_112)))))
theorem dX1_boundWaves_81 : decode cX1_boundWaves 81 = .ok (.aload_n 0, 1) := zk_of (zk_r (zk_r (zk_l (zk_r (zk_l zdX1_boundWaves_112)))))
theorem dX1_boundWaves_82 : decode cX1_boundWaves 82 = .ok (.getfield 25, 3) := zk_of (zk_l (zk_l (zk_r (zk_r (zk_l zdX1_boundWaves_112)))))
theorem dX1_boundWaves_85 : decode cX1_boundWaves 85 = .ok (.getfield 39, 3) := zk_of (zk_r (zk_l (zk_r (zk_r (zk_l zdX1_boundWaves_112)))))
theorem dX1_boundWaves_88 : decode cX1_boundWaves 88 = .ok (.iload_n 1, 1) := zk_of (zk_l (zk_r (zk_r (zk_r (zk_l zdX1_boundWaves_112)))))
theorem dX1_boundWaves_89 : decode cX1_boundWaves 89 = .ok (.iaload, 1) := zk_of (zk_r (zk_r (zk_r (zk_r (zk_l zdX1_boundWaves_112)))))
theorem dX1_boundWaves_90 : decode cX1_boundWaves 90 = .ok (.invokestatic 51, 3) := zk_of (zk_l (zk_l (zk_l (zk_l (zk_r zdX1_boundWaves_112)))))
theorem dX1_boundWaves_63 : decode cX1_boundWaves 63 = .ok (.aload_n 0, 1) := zk_of (zk_r (zk_l (zk_l (zk_l (zk_r zdX1_boundWaves_112)))))
theorem dX1_boundWaves_64 : decode cX1_boundWaves 64 = .ok (.getfield 25, 3) := zk_of (zk_l (zk_r (zk_l (zk_l (zk_r zdX1_boundWaves_112)))))
theorem dX1_boundWaves_67 : decode cX1_boundWaves 67 = .ok (.getfield 39, 3) := zk_of (zk_r (zk_r (zk_l (zk_l (zk_r zdX1_boundWaves_112)))))
theorem dX1_boundWaves_70 : decode cX1_boundWaves 70 = .ok (.iload_n 1, 1) := zk_of (zk_l (zk_l (zk_r (zk_l (zk_r zdX1_boundWaves_112)))))
theorem dX1_boundWaves_71 : decode cX1_boundWaves 71 = .ok (.iaload, 1) := zk_of (zk_r (zk_l (zk_r (zk_l (zk_r zdX1_boundWaves_112)))))
theorem dX1_boundWaves_72 : decode cX1_boundWaves 72 = .ok (.goto 21, 3) := zk_of (zk_l (zk_r (zk_r (zk_l (zk_r zdX1_boundWaves_112)))))
theorem dX1_boundWaves_10 : decode cX1_boundWaves 10 = .ok (.iload_n 1, 1) := zk_of (zk_r (zk_r (zk_r (zk_l (zk_r zdX1_boundWaves_112)))))
theorem dX1_boundWaves_11 : decode cX1_boundWaves 11 = .ok (.aload_n 0, 1) := zk_of (zk_l (zk_l (zk_l (zk_r (zk_r zdX1_boundWaves_112)))))
theorem dX1_boundWaves_12 : decode cX1_boundWaves 12 = .ok (.getfield 25, 3) := zk_of (zk_r (zk_l (zk_l (zk_r (zk_r zdX1_boundWaves_112)))))
theorem dX1_boundWaves_15 : decode cX1_boundWaves 15 = .ok (.getfield 33, 3) := zk_of (zk_l (zk_r (zk_l (zk_r (zk_r zdX1_boundWaves_112)))))
theorem dX1_boundWaves_18 : decode cX1_boundWaves 18 = .ok (.if_icmp .ge 132, 3) := zk_of (zk_r (zk_r (zk_l (zk_r (zk_r zdX1_boundWaves_112)))))
theorem dX1_boundWaves_150 : decode cX1_boundWaves 150 = .ok (.return_, 1) := zk_of (zk_l (zk_l (zk_r (zk_r (zk_r zdX1_boundWaves_112)))))
theorem dX1_boundWaves_21 : decode cX1_boundWaves 21 = .ok (.aload_n 0, 1) := zk_of (zk_r (zk_l (zk_r (zk_r (zk_r zdX1_boundWaves_112)))))
theorem dX1_boundWaves_22 : decode cX1_boundWaves 22 = .ok (.getfield 25, 3) := zk_of (zk_l (zk_r (zk_r (zk_r (zk_r zdX1_boundWaves_112)))))
theorem dX1_boundWaves_25 : decode cX1_boundWaves 25 = .ok (.getfield 69, 3) := zk_of (zk_r (zk_r (zk_r (zk_r (zk_r zdX1_boundWaves_112)))))
theorem zdX1_boundWaves_28 : (and (and (and (and (and (zk cX1_boundWaves 28 (.iload_n 1) 1) (zk cX1_boundWaves 29 (.bipush 6) 2)) (zk cX1_boundWaves 31 (.imul) 1)) (and (and (zk cX1_boundWaves 32 (.bipush 6) 2) (zk cX1_boundWaves 34 (.iadd) 1)) (zk cX1_boundWaves 35 (.iconst 1) 1))) (and (and (and (zk cX1_boundWaves 36 (.isub) 1) (zk cX1_boundWaves 37 (.iaload) 1)) (zk cX1_boundWaves 38 (.istore_n 2) 1)) (and (and (zk cX1_boundWaves 39 (.aload_n 0) 1) (zk cX1_boundWaves 40 (.getfield 15) 3)) (zk cX1_boundWaves 43 (.iload_n 2) 1)))) (and (and (and (and (zk cX1_boundWaves 44 (.iaload) 1) (zk cX1_boundWaves 45 (.ifCond .ne 7) 3)) (zk cX1_boundWaves 52 (.iconst 0) 1)) (and (and (zk cX1_boundWaves 48 (.iconst 1) 1) (zk cX1_boundWaves 49 (.goto 4) 3)) (zk cX1_boundWaves 0 (.aload_n 0) 1))) (and (and (and (zk cX1_boundWaves 1 (.getfield 15) 3) (zk cX1_boundWaves 4 (.iconst 0) 1)) (zk cX1_boundWaves 5 (.invokestatic 66) 3)) (and (zk cX1_boundWaves 8 (.iconst 0) 1) (zk cX1_boundWaves 9 (.istore_n 1) 1))))) = true := by decide +kernel
theorem dX1_boundWaves_28 : decode cX1_boundWaves 28 = .ok (.iload_n 1, 1) := zk_of (zk_l (zk_l (zk_l (zk_l (zk_l zdX1_boundWaves_28)))))
theorem dX1_boundWaves_29 : decode cX1_boundWaves 29 = .ok (.bipush 6, 2) := zk_of (zk_r (zk_l (zk_l (zk_l (zk_l zdX1_boundWaves_28)))))
theorem dX1_boundWaves_31 : decode cX1_boundWaves 31 = .ok (.imul, 1) := zk_of (zk_r (zk_l (zk_l (zk_l zdX1_boundWaves_28))))
theorem dX1_boundWaves_32 : decode cX1_boundWaves 32 = .ok (.bipush 6, 2) := zk_of (zk_l (zk_l (zk_r (zk_l (zk_l zdX1_boundWaves_28)))))
theorem dX1_boundWaves_34 : decode cX1_boundWaves 34 = .ok (.iadd, 1) := zk_of (zk_r (zk_l (zk_r (zk_l (zk_l zdX1_boundWaves_28)))))
theorem dX1_boundWaves_35 : decode cX1_boundWaves 35 = .ok (.iconst 1, 1) := zk_of (zk_r (zk_r (zk_l (zk_l zdX1_boundWaves_28))))
theorem dX1_boundWaves_36 : decode cX1_boundWaves 36 = .ok (.isub, 1) := zk_of (zk_l (zk_l (zk_l (zk_r (zk_l zdX1_boundWaves_28)))))
theorem dX1_boundWaves_37 : decode cX1_boundWaves 37 = .ok (.iaload, 1) := zk_of (zk_r (zk_l (zk_l (zk_r (zk_l zdX1_boundWaves_28)))))
theorem dX1_boundWaves_38 : decode cX1_boundWaves 38 = .ok (.istore_n 2, 1) := zk_of (zk_r (zk_l (zk_r (zk_l zdX1_boundWaves_28))))
theorem dX1_boundWaves_39 : decode cX1_boundWaves 39 = .ok (.aload_n 0, 1) := zk_of (zk_l (zk_l (zk_r (zk_r (zk_l zdX1_boundWaves_28)))))
theorem dX1_boundWaves_40 : decode cX1_boundWaves 40 = .ok (.getfield 15, 3) := zk_of (zk_r (zk_l (zk_r (zk_r (zk_l zdX1_boundWaves_28)))))
theorem dX1_boundWaves_43 : decode cX1_boundWaves 43 = .ok (.iload_n 2, 1) := zk_of (zk_r (zk_r (zk_r (zk_l zdX1_boundWaves_28))))
theorem dX1_boundWaves_44 : decode cX1_boundWaves 44 = .ok (.iaload, 1) := zk_of (zk_l (zk_l (zk_l (zk_l (zk_r zdX1_boundWaves_28)))))
theorem dX1_boundWaves_45 : decode cX1_boundWaves 45 = .ok (.ifCond .ne 7, 3) := zk_of (zk_r (zk_l (zk_l (zk_l (zk_r zdX1_boundWaves_28)))))
theorem dX1_boundWaves_52 : decode cX1_boundWaves 52 = .ok (.iconst 0, 1) := zk_of (zk_r (zk_l (zk_l (zk_r zdX1_boundWaves_28))))
theorem dX1_boundWaves_48 : decode cX1_boundWaves 48 = .ok (.iconst 1, 1) := zk_of (zk_l (zk_l (zk_r (zk_l (zk_r zdX1_boundWaves_28)))))
theorem dX1_boundWaves_49 : decode cX1_boundWaves 49 = .ok (.goto 4, 3) := zk_of (zk_r (zk_l (zk_r (zk_l (zk_r zdX1_boundWaves_28)))))
theorem dX1_boundWaves_0 : decode cX1_boundWaves 0 = .ok (.aload_n 0, 1) := zk_of (zk_r (zk_r (zk_l (zk_r zdX1_boundWaves_28))))
theorem dX1_boundWaves_1 : decode cX1_boundWaves 1 = .ok (.getfield 15, 3) := zk_of (zk_l (zk_l (zk_l (zk_r (zk_r zdX1_boundWaves_28)))))
theorem dX1_boundWaves_4 : decode cX1_boundWaves 4 = .ok (.iconst 0, 1) := zk_of (zk_r (zk_l (zk_l (zk_r (zk_r zdX1_boundWaves_28)))))
theorem dX1_boundWaves_5 : decode cX1_boundWaves 5 = .ok (.invokestatic 66, 3) := zk_of (zk_r (zk_l (zk_r (zk_r zdX1_boundWaves_28))))
theorem dX1_boundWaves_8 : decode cX1_boundWaves 8 = .ok (.iconst 0, 1) := zk_of (zk_l (zk_r (zk_r (zk_r zdX1_boundWaves_28))))
theorem dX1_boundWaves_9 : decode cX1_boundWaves 9 = .ok (.istore_n 1, 1) := zk_of (zk_r (zk_r (zk_r (zk_r zdX1_boundWaves_28))))
set_option maxRecDepth 20000 in
theorem ggX1_boundWaves_J7_fill_53178 : GoodIn wsX1_boundWaves wsJ7_fill_53178 := ggi (fun w h => List.mem_cons_of_mem _ (List.mem_append_left _ (List.mem_append_left _ (List.mem_append_right _ h)))) gs_J7_fill_53178
set_option maxRecDepth 20000 in
theorem gX1_boundWaves_J7_fill_53178 : GoodIn wsX1_boundWaves (va_wsS RX1 66 yJ7_fill_53178 wsJ7_fill_53178) := goodIn_app (goodIn_of _ (by decide +kernel)) ggX1_boundWaves_J7_fill_53178
/-- HissHorn$Findings.boundWaves()V of cell 8 -/
def rmX1_boundWaves_8 : Room := { frames := 1, cells := 0, slots := 0, locals := 23 }
theorem hX1_boundWaves_8_X1 : ∀ w ∈ u_ws RX1 TX1 13, w ∈ wsX1_boundWaves := fun w h => (List.mem_cons_of_mem _ (List.mem_append_left _ (List.mem_append_right _ h)))
theorem mX1_boundWaves_8_1 : Cond.fieldLink RX1 15 "HissHorn$Findings" "many" "[I" ∈ wsX1_boundWaves := (List.mem_cons_of_mem _ (List.mem_append_left _ (List.mem_append_left _ (List.mem_append_left _ (List.mem_of_getElem? (i := 3) rfl)))))
theorem mX1_boundWaves_8_2 : Cond.fieldLink RX1 25 "HissHorn$Findings" "readings" "LHissHorn$Readings;" ∈ wsX1_boundWaves := (List.mem_cons_of_mem _ (List.mem_append_left _ (List.mem_append_left _ (List.mem_append_left _ (List.mem_of_getElem? (i := 4) rfl)))))
theorem hX1_boundWaves_8_X7 : ∀ w ∈ u_ws RX7 TX7 12, w ∈ wsX1_boundWaves := fun w h => (List.mem_cons_of_mem _ (List.mem_append_right _ h))
theorem mX1_boundWaves_8_4 : Cond.fieldLink RX1 33 "HissHorn$Readings" "known" "I" ∈ wsX1_boundWaves := (List.mem_cons_of_mem _ (List.mem_append_left _ (List.mem_append_left _ (List.mem_append_left _ (List.mem_of_getElem? (i := 5) rfl)))))
theorem mX1_boundWaves_8_5 : Cond.fieldLink RX1 69 "HissHorn$Readings" "aims" "[I" ∈ wsX1_boundWaves := (List.mem_cons_of_mem _ (List.mem_append_left _ (List.mem_append_left _ (List.mem_append_left _ (List.mem_of_getElem? (i := 6) rfl)))))
theorem mX1_boundWaves_8_6 : Cond.fieldLink RX1 19 "HissHorn$Findings" "floor" "[I" ∈ wsX1_boundWaves := (List.mem_cons_of_mem _ (List.mem_append_left _ (List.mem_append_left _ (List.mem_append_left _ (List.mem_of_getElem? (i := 7) rfl)))))
theorem mX1_boundWaves_8_7 : Cond.fieldLink RX1 39 "HissHorn$Readings" "lower" "[I" ∈ wsX1_boundWaves := (List.mem_cons_of_mem _ (List.mem_append_left _ (List.mem_append_left _ (List.mem_append_left _ (List.mem_of_getElem? (i := 8) rfl)))))
theorem mX1_boundWaves_8_8 : Cond.methodLink RX1 51 Lib.Math.max.name ∈ wsX1_boundWaves := (List.mem_cons_of_mem _ (List.mem_append_left _ (List.mem_append_left _ (List.mem_append_left _ (List.mem_of_getElem? (i := 9) rfl)))))
theorem mX1_boundWaves_8_9 : Cond.static Lib.Math.max.name ∈ wsX1_boundWaves := (List.mem_cons_of_mem _ (List.mem_append_left _ (List.mem_append_left _ (List.mem_append_left _ (List.mem_of_getElem? (i := 10) rfl)))))
theorem mX1_boundWaves_8_10 : Cond.initialized "java/lang/Math" ∈ wsX1_boundWaves := (List.mem_cons_of_mem _ (List.mem_append_left _ (List.mem_append_left _ (List.mem_append_left _ (List.mem_of_getElem? (i := 11) rfl)))))
theorem mX1_boundWaves_8_11 : Cond.code Lib.Math.max.name Lib.Math.max.code 2 (some .int) ∈ wsX1_boundWaves := (List.mem_cons_of_mem _ (List.mem_append_left _ (List.mem_append_left _ (List.mem_append_left _ (List.mem_of_getElem? (i := 12) rfl)))))
theorem mX1_boundWaves_8_12 : Cond.fieldLink RX1 22 "HissHorn$Findings" "ceiling" "[I" ∈ wsX1_boundWaves := (List.mem_cons_of_mem _ (List.mem_append_left _ (List.mem_append_left _ (List.mem_append_left _ (List.mem_of_getElem? (i := 13) rfl)))))
theorem mX1_boundWaves_8_13 : Cond.fieldLink RX1 45 "HissHorn$Readings" "upper" "[I" ∈ wsX1_boundWaves := (List.mem_cons_of_mem _ (List.mem_append_left _ (List.mem_append_left _ (List.mem_append_left _ (List.mem_of_getElem? (i := 14) rfl)))))
theorem mX1_boundWaves_8_14 : Cond.methodLink RX1 57 Lib.Math.min.name ∈ wsX1_boundWaves := (List.mem_cons_of_mem _ (List.mem_append_left _ (List.mem_append_left _ (List.mem_append_left _ (List.mem_of_getElem? (i := 15) rfl)))))
theorem mX1_boundWaves_8_15 : Cond.static Lib.Math.min.name ∈ wsX1_boundWaves := (List.mem_cons_of_mem _ (List.mem_append_left _ (List.mem_append_left _ (List.mem_append_left _ (List.mem_of_getElem? (i := 16) rfl)))))
theorem mX1_boundWaves_8_16 : Cond.code Lib.Math.min.name Lib.Math.min.code 2 (some .int) ∈ wsX1_boundWaves := (List.mem_cons_of_mem _ (List.mem_append_left _ (List.mem_append_left _ (List.mem_append_left _ (List.mem_of_getElem? (i := 17) rfl)))))
def GX1_boundWaves_8_133 (k10 : Int32 → SX → Option (Int32 × SX)) (z1 : Int32) (z2 : Int32) (y0 : Int32) (y1 : Int32) (u : SX) : Option (Int32 × SX) := (gd (inb y1 41) (lt (sA u 45 (upd (u.2.1 45) y1.toNatClampNeg y0)) fun u16 => (gd (inb z2 41) (gd (inb z2 41) (lt (sA u16 43 (upd (u16.2.1 43) z2.toNatClampNeg ((u16.2.1 43 z2.toNatClampNeg) + 1))) fun u20 => (k10 (z1 + 1) u20))))))
def GX1_boundWaves_8_93 (k10 : Int32 → SX → Option (Int32 × SX)) (z1 : Int32) (z2 : Int32) (z3 : Int32) (y0 : Int32) (y1 : Int32) (u : SX) : Option (Int32 × SX) := (gd (inb y1 41) (lt (sA u 44 (upd (u.2.1 44) y1.toNatClampNeg y0)) fun u11 => (if z3 = 0 then (gd (inb z2 41) (gd (inb z1 80) (GX1_boundWaves_8_133 k10 z1 z2 (if (u11.2.1 39 z1.toNatClampNeg) < (u11.2.1 45 z2.toNatClampNeg) then (u11.2.1 39 z1.toNatClampNeg) else (u11.2.1 45 z2.toNatClampNeg)) z2 u11))) else (gd (inb z1 80) (GX1_boundWaves_8_133 k10 z1 z2 (u11.2.1 39 z1.toNatClampNeg) z2 u11)))))
def GX1_boundWaves_8_53 (k10 : Int32 → SX → Option (Int32 × SX)) (z1 : Int32) (z2 : Int32) (y0 : Int32) (u : SX) : Option (Int32 × SX) := (if y0 = 0 then (gd (inb z2 41) (gd (inb z1 80) (GX1_boundWaves_8_93 k10 z1 z2 y0 (if (u.2.1 44 z2.toNatClampNeg) < (u.2.1 38 z1.toNatClampNeg) then (u.2.1 38 z1.toNatClampNeg) else (u.2.1 44 z2.toNatClampNeg)) z2 u))) else (gd (inb z1 80) (GX1_boundWaves_8_93 k10 z1 z2 y0 (u.2.1 38 z1.toNatClampNeg) z2 u)))
def LX1_boundWaves_8_10  : Nat → Int32 → SX → Option (Int32 × SX)
  | 0, _, _ => none
  | n + 1, z1, u => (if (u.1 14) ≤ z1 then (some (0, u)) else (gd (inb (((z1 * 6) + 6) - 1) 480) (lt (u.2.1 36 (((z1 * 6) + 6) - 1).toNatClampNeg) fun v5 => (gd (inb v5 41) (if (u.2.1 43 v5.toNatClampNeg) = 0 then (GX1_boundWaves_8_53 (LX1_boundWaves_8_10 n) z1 v5 1 u) else (GX1_boundWaves_8_53 (LX1_boundWaves_8_10 n) z1 v5 0 u))))))
def fX1_boundWaves_8  (u : SX) : Option (Int32 × SX) := ((fJ7_fill_53178_a43 0 u).bind fun q => match q with | (r1, u2) => (LX1_boundWaves_8_10  5000 0 u2))
set_option maxHeartbeats 4000000 in
set_option maxRecDepth 100000 in
theorem wGX1_boundWaves_8_133 {p : Program} {l : Launch} {e : Env} {s : State} {m : MethodId} {args : Array Value} {below : List Frame} {meth : Method} {c : Code} {D : va_G} {cy : Nat → ClassId} {ad st : Nat → Nat} (C : Cx RX1 cX1_boundWaves 4 none wsX1_boundWaves p s m args meth c) (hK : Ky D [(cy 0, .int), (cy 1, .long), (cy 2, .boolean), (cy 3, .byte), (cy 4, .object "HissHorn$Text")] st s) (hJ : JX ad st) {r : Int32} {u' : SX} {k10 : Int32 → SX → Option (Int32 × SX)} (hk10 : ∀ (z1 : Int32) (u : SX) (H : Heap) (locs : List Loc) (ls : Array Slot), k10 z1 u = some (r, u') → va_P D vwCl (VX cy ad st u) H → va_S (Ax (AX ad) s.heap.size) s.heap H locs → lv_has ls 4 [(0, .ref (ad 8)), (1, .int z1)] → W p l e rmX1_boundWaves_8 s m args below meth c H locs 0 0 (MQ below (Qv D (VX cy ad st) (AX ad) s.heap.size r u') args s 0 0 (Ax (AX ad) s.heap.size)) (F0 m 10 ls [])) (z1 : Int32) (z2 : Int32) (y0 : Int32) (y1 : Int32) (u : SX) (H : Heap) (locs : List Loc) (ls : Array Slot) (h : GX1_boundWaves_8_133 k10 z1 z2 y0 y1 u = some (r, u')) (hP : va_P D vwCl (VX cy ad st u) H) (hS : va_S (Ax (AX ad) s.heap.size) s.heap H locs) (hl : lv_has ls 4 [(0, .ref (ad 8)), (1, .int z1), (2, .int z2)]) : W p l e rmX1_boundWaves_8 s m args below meth c H locs 0 0 (MQ below (Qv D (VX cy ad st) (AX ad) s.heap.size r u') args s 0 0 (Ax (AX ad) s.heap.size)) (F0 m 133 ls [.int y0, .int y1, .ref (ad 45)]) := by
  unfold GX1_boundWaves_8_133 at h
  obtain ⟨hg15, h⟩ := gd_some h
  refine tX_45 C hK hP hJ hS hg15 dX1_boundWaves_133 (fun H locs hP hS => ?_)
  obtain ⟨u16, hu17, h⟩ := lt_some h
  rw [← hu17] at hP
  refine lv_aload_n C.1 C.2.1 dX1_boundWaves_134 rfl (lv_at hl 0 rfl) ?_
  refine gX_8_many C hX1_boundWaves_8_X1 hK hP mX1_boundWaves_8_1 dX1_boundWaves_135 ?_
  refine lv_iload_n C.1 C.2.1 dX1_boundWaves_138 rfl (lv_at hl 2 rfl) ?_
  refine lv_dup2_11 C.1 C.2.1 dX1_boundWaves_139 rfl rfl ?_
  obtain ⟨hg18, h⟩ := gd_some h
  refine lX_43 C hK hP hg18 dX1_boundWaves_140 ?_
  refine lv_iconst (v := 1) C.1 C.2.1 dX1_boundWaves_141 (by decide) ?_
  refine lv_iadd C.1 C.2.1 dX1_boundWaves_142 ?_
  obtain ⟨hg19, h⟩ := gd_some h
  refine tX_43 C hK hP hJ hS hg19 dX1_boundWaves_143 (fun H locs hP hS => ?_)
  obtain ⟨u20, hu21, h⟩ := lt_some h
  rw [← hu21] at hP
  refine lv_iinc (v := z1 + 1) (lv' := [(1, .int (z1 + 1)), (0, .ref (ad 8)), (2, .int z2)]) C.1 C.2.1 dX1_boundWaves_144 hl (k := 1) rfl rfl (by decide) rfl (fun ls hl => ?_)
  replace hl := lv_sub (l' := [(0, .ref (ad 8)), (1, .int (z1 + 1)), (2, .int z2)]) hl [1, 0, 2] rfl
  refine lv_goto (tgt := 10) C.1 C.2.1 dX1_boundWaves_147 (by decide) ?_
  exact hk10 _ _ _ _ _ h hP hS (lv_sub hl [0, 1] rfl)
set_option maxHeartbeats 4000000 in
set_option maxRecDepth 100000 in
theorem wGX1_boundWaves_8_93 {p : Program} {l : Launch} {e : Env} {s : State} {m : MethodId} {args : Array Value} {below : List Frame} {meth : Method} {c : Code} {D : va_G} {cy : Nat → ClassId} {ad st : Nat → Nat} (C : Cx RX1 cX1_boundWaves 4 none wsX1_boundWaves p s m args meth c) (hK : Ky D [(cy 0, .int), (cy 1, .long), (cy 2, .boolean), (cy 3, .byte), (cy 4, .object "HissHorn$Text")] st s) (hJ : JX ad st) {r : Int32} {u' : SX} {k10 : Int32 → SX → Option (Int32 × SX)} (hk10 : ∀ (z1 : Int32) (u : SX) (H : Heap) (locs : List Loc) (ls : Array Slot), k10 z1 u = some (r, u') → va_P D vwCl (VX cy ad st u) H → va_S (Ax (AX ad) s.heap.size) s.heap H locs → lv_has ls 4 [(0, .ref (ad 8)), (1, .int z1)] → W p l e rmX1_boundWaves_8 s m args below meth c H locs 0 0 (MQ below (Qv D (VX cy ad st) (AX ad) s.heap.size r u') args s 0 0 (Ax (AX ad) s.heap.size)) (F0 m 10 ls [])) (z1 : Int32) (z2 : Int32) (z3 : Int32) (y0 : Int32) (y1 : Int32) (u : SX) (H : Heap) (locs : List Loc) (ls : Array Slot) (h : GX1_boundWaves_8_93 k10 z1 z2 z3 y0 y1 u = some (r, u')) (hP : va_P D vwCl (VX cy ad st u) H) (hS : va_S (Ax (AX ad) s.heap.size) s.heap H locs) (hl : lv_has ls 4 [(0, .ref (ad 8)), (1, .int z1), (2, .int z2), (3, .int z3)]) : W p l e rmX1_boundWaves_8 s m args below meth c H locs 0 0 (MQ below (Qv D (VX cy ad st) (AX ad) s.heap.size r u') args s 0 0 (Ax (AX ad) s.heap.size)) (F0 m 93 ls [.int y0, .int y1, .ref (ad 44)]) := by
  unfold GX1_boundWaves_8_93 at h
  obtain ⟨hg10, h⟩ := gd_some h
  refine tX_44 C hK hP hJ hS hg10 dX1_boundWaves_93 (fun H locs hP hS => ?_)
  obtain ⟨u11, hu12, h⟩ := lt_some h
  rw [← hu12] at hP
  refine lv_aload_n C.1 C.2.1 dX1_boundWaves_94 rfl (lv_at hl 0 rfl) ?_
  refine gX_8_ceiling C hX1_boundWaves_8_X1 hK hP mX1_boundWaves_8_12 dX1_boundWaves_95 ?_
  refine lv_iload_n C.1 C.2.1 dX1_boundWaves_98 rfl (lv_at hl 2 rfl) ?_
  refine lv_iload_n C.1 C.2.1 dX1_boundWaves_99 rfl (lv_at hl 3 rfl) ?_
  refine lv_if_eq (tgt := 115) C.1 C.2.1 dX1_boundWaves_100 (by decide) (fun c100 => ?_) (fun c100 => ?_)
  · rw [if_pos c100] at h
    refine lv_aload_n C.1 C.2.1 dX1_boundWaves_115 rfl (lv_at hl 0 rfl) ?_
    refine gX_8_ceiling C hX1_boundWaves_8_X1 hK hP mX1_boundWaves_8_12 dX1_boundWaves_116 ?_
    refine lv_iload_n C.1 C.2.1 dX1_boundWaves_119 rfl (lv_at hl 2 rfl) ?_
    obtain ⟨hg13, h⟩ := gd_some h
    refine lX_45 C hK hP hg13 dX1_boundWaves_120 ?_
    refine lv_aload_n C.1 C.2.1 dX1_boundWaves_121 rfl (lv_at hl 0 rfl) ?_
    refine gX_8_readings C hX1_boundWaves_8_X1 hK hP mX1_boundWaves_8_2 dX1_boundWaves_122 ?_
    refine gX_7_upper C hX1_boundWaves_8_X7 hK hP mX1_boundWaves_8_13 dX1_boundWaves_125 ?_
    refine lv_iload_n C.1 C.2.1 dX1_boundWaves_128 rfl (lv_at hl 1 rfl) ?_
    obtain ⟨hg14, h⟩ := gd_some h
    refine lX_39 C hK hP hg14 dX1_boundWaves_129 ?_
    refine va_mmin C.1 C.2.1 (C.2.2.1.trans hl.1.symm) C.2.2.2.2.1 (C.2.2.2.2.2.1 _ mX1_boundWaves_8_14) (C.2.2.2.2.2.1 _ mX1_boundWaves_8_15) (C.2.2.2.2.2.1 _ mX1_boundWaves_8_10) (C.2.2.2.2.2.1 _ mX1_boundWaves_8_16) (Nat.le_of_ble_eq_true rfl) (Nat.le_of_ble_eq_true rfl) (Nat.zero_le _) (Nat.zero_le _) dX1_boundWaves_130 ?_
    exact wGX1_boundWaves_8_133 C hK hJ hk10 _ _ _ _ _ _ _ _ h hP hS (lv_sub hl [0, 1, 2] rfl)
  · rw [if_neg c100] at h
    refine lv_aload_n C.1 C.2.1 dX1_boundWaves_103 rfl (lv_at hl 0 rfl) ?_
    refine gX_8_readings C hX1_boundWaves_8_X1 hK hP mX1_boundWaves_8_2 dX1_boundWaves_104 ?_
    refine gX_7_upper C hX1_boundWaves_8_X7 hK hP mX1_boundWaves_8_13 dX1_boundWaves_107 ?_
    refine lv_iload_n C.1 C.2.1 dX1_boundWaves_110 rfl (lv_at hl 1 rfl) ?_
    obtain ⟨hg22, h⟩ := gd_some h
    refine lX_39 C hK hP hg22 dX1_boundWaves_111 ?_
    refine lv_goto (tgt := 133) C.1 C.2.1 dX1_boundWaves_112 (by decide) ?_
    exact wGX1_boundWaves_8_133 C hK hJ hk10 _ _ _ _ _ _ _ _ h hP hS (lv_sub hl [0, 1, 2] rfl)
set_option maxHeartbeats 4000000 in
set_option maxRecDepth 100000 in
theorem wGX1_boundWaves_8_53 {p : Program} {l : Launch} {e : Env} {s : State} {m : MethodId} {args : Array Value} {below : List Frame} {meth : Method} {c : Code} {D : va_G} {cy : Nat → ClassId} {ad st : Nat → Nat} (C : Cx RX1 cX1_boundWaves 4 none wsX1_boundWaves p s m args meth c) (hK : Ky D [(cy 0, .int), (cy 1, .long), (cy 2, .boolean), (cy 3, .byte), (cy 4, .object "HissHorn$Text")] st s) (hJ : JX ad st) {r : Int32} {u' : SX} {k10 : Int32 → SX → Option (Int32 × SX)} (hk10 : ∀ (z1 : Int32) (u : SX) (H : Heap) (locs : List Loc) (ls : Array Slot), k10 z1 u = some (r, u') → va_P D vwCl (VX cy ad st u) H → va_S (Ax (AX ad) s.heap.size) s.heap H locs → lv_has ls 4 [(0, .ref (ad 8)), (1, .int z1)] → W p l e rmX1_boundWaves_8 s m args below meth c H locs 0 0 (MQ below (Qv D (VX cy ad st) (AX ad) s.heap.size r u') args s 0 0 (Ax (AX ad) s.heap.size)) (F0 m 10 ls [])) (z1 : Int32) (z2 : Int32) (y0 : Int32) (u : SX) (H : Heap) (locs : List Loc) (ls : Array Slot) (h : GX1_boundWaves_8_53 k10 z1 z2 y0 u = some (r, u')) (hP : va_P D vwCl (VX cy ad st u) H) (hS : va_S (Ax (AX ad) s.heap.size) s.heap H locs) (hl : lv_has ls 4 [(0, .ref (ad 8)), (1, .int z1), (2, .int z2)]) : W p l e rmX1_boundWaves_8 s m args below meth c H locs 0 0 (MQ below (Qv D (VX cy ad st) (AX ad) s.heap.size r u') args s 0 0 (Ax (AX ad) s.heap.size)) (F0 m 53 ls [.int y0]) := by
  unfold GX1_boundWaves_8_53 at h
  refine lv_istore_n (lv' := [(3, .int y0), (0, .ref (ad 8)), (1, .int z1), (2, .int z2)]) C.1 C.2.1 dX1_boundWaves_53 rfl hl (by decide) rfl (fun ls hl => ?_)
  replace hl := lv_sub (l' := [(0, .ref (ad 8)), (1, .int z1), (2, .int z2), (3, .int y0)]) hl [1, 2, 3, 0] rfl
  refine lv_aload_n C.1 C.2.1 dX1_boundWaves_54 rfl (lv_at hl 0 rfl) ?_
  refine gX_8_floor C hX1_boundWaves_8_X1 hK hP mX1_boundWaves_8_6 dX1_boundWaves_55 ?_
  refine lv_iload_n C.1 C.2.1 dX1_boundWaves_58 rfl (lv_at hl 2 rfl) ?_
  refine lv_iload_n C.1 C.2.1 dX1_boundWaves_59 rfl (lv_at hl 3 rfl) ?_
  refine lv_if_eq (tgt := 75) C.1 C.2.1 dX1_boundWaves_60 (by decide) (fun c60 => ?_) (fun c60 => ?_)
  · rw [if_pos c60] at h
    refine lv_aload_n C.1 C.2.1 dX1_boundWaves_75 rfl (lv_at hl 0 rfl) ?_
    refine gX_8_floor C hX1_boundWaves_8_X1 hK hP mX1_boundWaves_8_6 dX1_boundWaves_76 ?_
    refine lv_iload_n C.1 C.2.1 dX1_boundWaves_79 rfl (lv_at hl 2 rfl) ?_
    obtain ⟨hg8, h⟩ := gd_some h
    refine lX_44 C hK hP hg8 dX1_boundWaves_80 ?_
    refine lv_aload_n C.1 C.2.1 dX1_boundWaves_81 rfl (lv_at hl 0 rfl) ?_
    refine gX_8_readings C hX1_boundWaves_8_X1 hK hP mX1_boundWaves_8_2 dX1_boundWaves_82 ?_
    refine gX_7_lower C hX1_boundWaves_8_X7 hK hP mX1_boundWaves_8_7 dX1_boundWaves_85 ?_
    refine lv_iload_n C.1 C.2.1 dX1_boundWaves_88 rfl (lv_at hl 1 rfl) ?_
    obtain ⟨hg9, h⟩ := gd_some h
    refine lX_38 C hK hP hg9 dX1_boundWaves_89 ?_
    refine va_mmax C.1 C.2.1 (C.2.2.1.trans hl.1.symm) C.2.2.2.2.1 (C.2.2.2.2.2.1 _ mX1_boundWaves_8_8) (C.2.2.2.2.2.1 _ mX1_boundWaves_8_9) (C.2.2.2.2.2.1 _ mX1_boundWaves_8_10) (C.2.2.2.2.2.1 _ mX1_boundWaves_8_11) (Nat.le_of_ble_eq_true rfl) (Nat.le_of_ble_eq_true rfl) (Nat.zero_le _) (Nat.zero_le _) dX1_boundWaves_90 ?_
    exact wGX1_boundWaves_8_93 C hK hJ hk10 _ _ _ _ _ _ _ _ _ h hP hS hl
  · rw [if_neg c60] at h
    refine lv_aload_n C.1 C.2.1 dX1_boundWaves_63 rfl (lv_at hl 0 rfl) ?_
    refine gX_8_readings C hX1_boundWaves_8_X1 hK hP mX1_boundWaves_8_2 dX1_boundWaves_64 ?_
    refine gX_7_lower C hX1_boundWaves_8_X7 hK hP mX1_boundWaves_8_7 dX1_boundWaves_67 ?_
    refine lv_iload_n C.1 C.2.1 dX1_boundWaves_70 rfl (lv_at hl 1 rfl) ?_
    obtain ⟨hg23, h⟩ := gd_some h
    refine lX_38 C hK hP hg23 dX1_boundWaves_71 ?_
    refine lv_goto (tgt := 93) C.1 C.2.1 dX1_boundWaves_72 (by decide) ?_
    exact wGX1_boundWaves_8_93 C hK hJ hk10 _ _ _ _ _ _ _ _ _ h hP hS hl
set_option maxHeartbeats 4000000 in
set_option maxRecDepth 100000 in
theorem wLX1_boundWaves_8_10 {p : Program} {l : Launch} {e : Env} {s : State} {m : MethodId} {args : Array Value} {below : List Frame} {meth : Method} {c : Code} {D : va_G} {cy : Nat → ClassId} {ad st : Nat → Nat} (C : Cx RX1 cX1_boundWaves 4 none wsX1_boundWaves p s m args meth c) (hK : Ky D [(cy 0, .int), (cy 1, .long), (cy 2, .boolean), (cy 3, .byte), (cy 4, .object "HissHorn$Text")] st s) (hJ : JX ad st) {r : Int32} {u' : SX}   : ∀ (n : Nat) (z1 : Int32) (u : SX) (H : Heap) (locs : List Loc) (ls : Array Slot), LX1_boundWaves_8_10  n z1 u = some (r, u') → va_P D vwCl (VX cy ad st u) H → va_S (Ax (AX ad) s.heap.size) s.heap H locs → lv_has ls 4 [(0, .ref (ad 8)), (1, .int z1)] → W p l e rmX1_boundWaves_8 s m args below meth c H locs 0 0 (MQ below (Qv D (VX cy ad st) (AX ad) s.heap.size r u') args s 0 0 (Ax (AX ad) s.heap.size)) (F0 m 10 ls []) := by
  intro n
  induction n with
  | zero =>
    intro z1 u H locs ls h
    exact absurd h (by intro q; cases q)
  | succ n ih =>
    intro z1 u H locs ls h hP hS hl
    rw [LX1_boundWaves_8_10] at h
    refine lv_iload_n C.1 C.2.1 dX1_boundWaves_10 rfl (lv_at hl 1 rfl) ?_
    refine lv_aload_n C.1 C.2.1 dX1_boundWaves_11 rfl (lv_at hl 0 rfl) ?_
    refine gX_8_readings C hX1_boundWaves_8_X1 hK hP mX1_boundWaves_8_2 dX1_boundWaves_12 ?_
    refine gX_7_known C hX1_boundWaves_8_X7 hK hP mX1_boundWaves_8_4 dX1_boundWaves_15 ?_
    refine lv_icmp_ge (tgt := 150) C.1 C.2.1 dX1_boundWaves_18 (by decide) (fun c18 => ?_) (fun c18 => ?_)
    · rw [if_pos c18] at h
      cases h
      exact rt_v C hP hS dX1_boundWaves_150
    · rw [if_neg c18] at h
      refine lv_aload_n C.1 C.2.1 dX1_boundWaves_21 rfl (lv_at hl 0 rfl) ?_
      refine gX_8_readings C hX1_boundWaves_8_X1 hK hP mX1_boundWaves_8_2 dX1_boundWaves_22 ?_
      refine gX_7_aims C hX1_boundWaves_8_X7 hK hP mX1_boundWaves_8_5 dX1_boundWaves_25 ?_
      refine lv_iload_n C.1 C.2.1 dX1_boundWaves_28 rfl (lv_at hl 1 rfl) ?_
      refine lv_bipush (v := 6) C.1 C.2.1 dX1_boundWaves_29 (by decide) ?_
      refine lv_imul C.1 C.2.1 dX1_boundWaves_31 ?_
      refine lv_bipush (v := 6) C.1 C.2.1 dX1_boundWaves_32 (by decide) ?_
      refine lv_iadd C.1 C.2.1 dX1_boundWaves_34 ?_
      refine lv_iconst (v := 1) C.1 C.2.1 dX1_boundWaves_35 (by decide) ?_
      refine lv_isub C.1 C.2.1 dX1_boundWaves_36 ?_
      obtain ⟨hg4, h⟩ := gd_some h
      refine lX_36 C hK hP hg4 dX1_boundWaves_37 ?_
      refine lv_topi (fun v5 hv6 => ?_)
      replace h := lt_e hv6 h
      try dsimp only at h
      refine lv_istore_n (lv' := [(2, .int v5), (0, .ref (ad 8)), (1, .int z1)]) C.1 C.2.1 dX1_boundWaves_38 rfl hl (by decide) rfl (fun ls hl => ?_)
      replace hl := lv_sub (l' := [(0, .ref (ad 8)), (1, .int z1), (2, .int v5)]) hl [1, 2, 0] rfl
      refine lv_aload_n C.1 C.2.1 dX1_boundWaves_39 rfl (lv_at hl 0 rfl) ?_
      refine gX_8_many C hX1_boundWaves_8_X1 hK hP mX1_boundWaves_8_1 dX1_boundWaves_40 ?_
      refine lv_iload_n C.1 C.2.1 dX1_boundWaves_43 rfl (lv_at hl 2 rfl) ?_
      obtain ⟨hg7, h⟩ := gd_some h
      refine lX_43 C hK hP hg7 dX1_boundWaves_44 ?_
      refine lv_if_ne (tgt := 52) C.1 C.2.1 dX1_boundWaves_45 (by decide) (fun c45 => ?_) (fun c45 => ?_)
      · rw [if_neg c45] at h
        refine lv_iconst (v := 0) C.1 C.2.1 dX1_boundWaves_52 (by decide) ?_
        exact wGX1_boundWaves_8_53 C hK hJ ih _ _ _ _ _ _ _ h hP hS hl
      · rw [if_pos c45] at h
        refine lv_iconst (v := 1) C.1 C.2.1 dX1_boundWaves_48 (by decide) ?_
        refine lv_goto (tgt := 53) C.1 C.2.1 dX1_boundWaves_49 (by decide) ?_
        exact wGX1_boundWaves_8_53 C hK hJ ih _ _ _ _ _ _ _ h hP hS hl
set_option maxHeartbeats 4000000 in
set_option maxRecDepth 100000 in
theorem wX1_boundWaves_8 {p : Program} {l : Launch} {e : Env} {s : State} {m : MethodId} {args : Array Value} {below : List Frame} {meth : Method} {c : Code} {D : va_G} {cy : Nat → ClassId} {ad st : Nat → Nat} (C : Cx RX1 cX1_boundWaves 4 none wsX1_boundWaves p s m args meth c) (hK : Ky D [(cy 0, .int), (cy 1, .long), (cy 2, .boolean), (cy 3, .byte), (cy 4, .object "HissHorn$Text")] st s) (hJ : JX ad st)  {u : SX} {r : Int32} {u' : SX} {H : Heap} {locs : List Loc} {ls : Array Slot} (h : fX1_boundWaves_8  u = some (r, u')) (hP : va_P D vwCl (VX cy ad st u) H) (hS : va_S (Ax (AX ad) s.heap.size) s.heap H locs) (hl : lv_has ls 4 [(0, .ref (ad 8))]) : W p l e rmX1_boundWaves_8 s m args below meth c H locs 0 0 (MQ below (Qv D (VX cy ad st) (AX ad) s.heap.size r u') args s 0 0 (Ax (AX ad) s.heap.size)) (F0 m 0 ls []) := by
  unfold fX1_boundWaves_8 at h
  refine lv_aload_n C.1 C.2.1 dX1_boundWaves_0 rfl (lv_at hl 0 rfl) ?_
  refine gX_8_many C hX1_boundWaves_8_X1 hK hP mX1_boundWaves_8_1 dX1_boundWaves_1 ?_
  refine lv_iconst (v := 0) C.1 C.2.1 dX1_boundWaves_4 (by decide) ?_
  obtain ⟨⟨r1, u2⟩, hc3, h⟩ := bd_some h
  try dsimp only at h
  refine ct_v (As := [.ref (ad 43), .int 0]) (rest := []) (AX_ge hJ) C hK hP hS (metJ7_fill_53178_a43 l D cy ad st hJ _ 0 hc3) (va_cwS 2 C.2.2.2.2.2.1 gX1_boundWaves_J7_fill_53178 rfl rfl rfl (by decide +kernel) ⟨(Nat.le_of_ble_eq_true rfl), (Nat.le_of_ble_eq_true rfl)⟩) rfl hl.1 rfl (Nat.le_of_ble_eq_true rfl) dX1_boundWaves_5 ⟨Nat.zero_le _, Nat.zero_le _⟩ (fun H locs hP hS => ?_)
  refine lv_iconst (v := 0) C.1 C.2.1 dX1_boundWaves_8 (by decide) ?_
  refine lv_istore_n (lv' := [(1, .int 0), (0, .ref (ad 8))]) C.1 C.2.1 dX1_boundWaves_9 rfl hl (by decide) rfl (fun ls hl => ?_)
  replace hl := lv_sub (l' := [(0, .ref (ad 8)), (1, .int 0)]) hl [1, 0] rfl
  exact wLX1_boundWaves_8_10 C hK hJ  5000 _ _ _ _ _ h hP hS hl
theorem metX1_boundWaves_8 (l : Launch) (D : va_G) (cy : Nat → ClassId) (ad st : Nat → Nat) (hJ : JX ad st) (sz : Nat)  {u : SX} {r : Int32} {u' : SX} (h : fX1_boundWaves_8  u = some (r, u')) : Met l yX1_boundWaves wsX1_boundWaves rmX1_boundWaves_8 (va_Pc [.ref (ad 8)] (Px D [(cy 0, .int), (cy 1, .long), (cy 2, .boolean), (cy 3, .byte), (cy 4, .object "HissHorn$Text")] st (VX cy ad st) sz u)) (Qv D (VX cy ad st) (AX ad) sz r u') 0 0 (Ax (AX ad) sz) := by
  refine Met.ofW (cc := cX1_boundWaves) (maxL := 4) (ret := none) (by decide) rfl ?_
  intro p e s m args below meth c s₁ B hml hv
  obtain ⟨rfl, hsz, hP, hK⟩ := hv
  subst hsz
  have C : Cx RX1 cX1_boundWaves 4 none wsX1_boundWaves p s m _ meth c := ⟨B.exec, B.bytes, hml, B.returns, findClass_of_methodNamed B.named, atoms_spec (ws := wsX1_boundWaves) B.pre, B.notSynchronized⟩
  have hl := lv_entry ([.ref (ad 8)]) (n := 4) (Nat.le_of_ble_eq_true rfl)
  rw [lg_entry_eq]
  exact wX1_boundWaves_8 C hK hJ h hP va_S.rf hl

/-- HissHorn$Shelf.set(II)V of cell 4 -/
def rmX8_set_4 : Room := { frames := 0, cells := 0, slots := 0, locals := 0 }
theorem hX8_set_4_X8 : ∀ w ∈ u_ws RX8 TX8 5, w ∈ wsX8_set := fun w h => (List.mem_cons_of_mem _ (List.mem_append_right _ h))
theorem mX8_set_4_1 : Cond.fieldLink RX8 33 "HissHorn$Shelf" "values" "[I" ∈ wsX8_set := (List.mem_cons_of_mem _ (List.mem_append_left _ (List.mem_of_getElem? (i := 0) rfl)))
def fX8_set_4 (x1 : Int32) (x2 : Int32) (u : SX) : Option (Int32 × SX) := (if x1 < 0 then (some (0, u)) else (if 2 ≤ x1 then (some (0, u)) else (gd (inb x1 2) (lt (sA u 19 (upd (u.2.1 19) x1.toNatClampNeg x2)) fun u2 => (some (0, u2))))))
set_option maxHeartbeats 4000000 in
set_option maxRecDepth 100000 in
theorem wX8_set_4 {p : Program} {l : Launch} {e : Env} {s : State} {m : MethodId} {args : Array Value} {below : List Frame} {meth : Method} {c : Code} {D : va_G} {cy : Nat → ClassId} {ad st : Nat → Nat} (C : Cx RX8 cX8_set 3 none wsX8_set p s m args meth c) (hK : Ky D [(cy 0, .int), (cy 1, .long), (cy 2, .boolean), (cy 3, .byte), (cy 4, .object "HissHorn$Text")] st s) (hJ : JX ad st) (x1 : Int32) (x2 : Int32) {u : SX} {r : Int32} {u' : SX} {H : Heap} {locs : List Loc} {ls : Array Slot} (h : fX8_set_4 x1 x2 u = some (r, u')) (hP : va_P D vwCl (VX cy ad st u) H) (hS : va_S (Ax (AX ad) s.heap.size) s.heap H locs) (hl : lv_has ls 3 [(0, .ref (ad 4)), (1, .int x1), (2, .int x2)]) : W p l e rmX8_set_4 s m args below meth c H locs 0 0 (MQ below (Qv D (VX cy ad st) (AX ad) s.heap.size r u') args s 0 0 (Ax (AX ad) s.heap.size)) (F0 m 0 ls []) := by
  unfold fX8_set_4 at h
  refine lv_iload_n C.1 C.2.1 dX8_set_0 rfl (lv_at hl 1 rfl) ?_
  refine lv_if_lt (tgt := 20) C.1 C.2.1 dX8_set_1 (by decide) (fun c1 => ?_) (fun c1 => ?_)
  · rw [if_pos c1] at h
    cases h
    exact rt_v C hP hS dX8_set_20
  · rw [if_neg c1] at h
    refine lv_iload_n C.1 C.2.1 dX8_set_4 rfl (lv_at hl 1 rfl) ?_
    refine lv_aload_n C.1 C.2.1 dX8_set_5 rfl (lv_at hl 0 rfl) ?_
    refine gX_4_values C hX8_set_4_X8 hK hP mX8_set_4_1 dX8_set_6 ?_
    refine va_alen (v := 2) C.1 C.2.1 hK.1 hP 19 0 rfl rfl rfl dX8_set_9 ?_
    refine lv_icmp_ge (tgt := 20) C.1 C.2.1 dX8_set_10 (by decide) (fun c10 => ?_) (fun c10 => ?_)
    · rw [if_pos c10] at h
      cases h
      exact rt_v C hP hS dX8_set_20
    · rw [if_neg c10] at h
      refine lv_aload_n C.1 C.2.1 dX8_set_13 rfl (lv_at hl 0 rfl) ?_
      refine gX_4_values C hX8_set_4_X8 hK hP mX8_set_4_1 dX8_set_14 ?_
      refine lv_iload_n C.1 C.2.1 dX8_set_17 rfl (lv_at hl 1 rfl) ?_
      refine lv_iload_n C.1 C.2.1 dX8_set_18 rfl (lv_at hl 2 rfl) ?_
      obtain ⟨hg1, h⟩ := gd_some h
      refine tX_19 C hK hP hJ hS hg1 dX8_set_19 (fun H locs hP hS => ?_)
      obtain ⟨u2, hu3, h⟩ := lt_some h
      rw [← hu3] at hP
      cases h
      exact rt_v C hP hS dX8_set_20
theorem metX8_set_4 (l : Launch) (D : va_G) (cy : Nat → ClassId) (ad st : Nat → Nat) (hJ : JX ad st) (sz : Nat) (x1 : Int32) (x2 : Int32) {u : SX} {r : Int32} {u' : SX} (h : fX8_set_4 x1 x2 u = some (r, u')) : Met l yX8_set wsX8_set rmX8_set_4 (va_Pc [.ref (ad 4), .int x1, .int x2] (Px D [(cy 0, .int), (cy 1, .long), (cy 2, .boolean), (cy 3, .byte), (cy 4, .object "HissHorn$Text")] st (VX cy ad st) sz u)) (Qv D (VX cy ad st) (AX ad) sz r u') 0 0 (Ax (AX ad) sz) := by
  refine Met.ofW (cc := cX8_set) (maxL := 3) (ret := none) (by decide) rfl ?_
  intro p e s m args below meth c s₁ B hml hv
  obtain ⟨rfl, hsz, hP, hK⟩ := hv
  subst hsz
  have C : Cx RX8 cX8_set 3 none wsX8_set p s m _ meth c := ⟨B.exec, B.bytes, hml, B.returns, findClass_of_methodNamed B.named, atoms_spec (ws := wsX8_set) B.pre, B.notSynchronized⟩
  have hl := lv_entry ([.ref (ad 4), .int x1, .int x2]) (n := 3) (Nat.le_of_ble_eq_true rfl)
  rw [lg_entry_eq]
  exact wX8_set_4 C hK hJ x1 x2 h hP va_S.rf hl
