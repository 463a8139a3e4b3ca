theorem zdX4_tryAll_91 : (and (and (and (and (and (zk cX4_tryAll 91 (.iinc 7 1) 3) (zk cX4_tryAll 94 (.goto (-87)) 3)) (and (zk cX4_tryAll 7 (.iload 7) 2) (zk cX4_tryAll 9 (.aload_n 0) 1))) (and (and (zk cX4_tryAll 10 (.getfield 18) 3) (zk cX4_tryAll 13 (.getfield 28) 3)) (and (zk cX4_tryAll 16 (.if_icmp .ge 81) 3) (zk cX4_tryAll 97 (.iload 6) 2)))) (and (and (and (zk cX4_tryAll 99 (.ireturn) 1) (zk cX4_tryAll 19 (.iload 7) 2)) (and (zk cX4_tryAll 21 (.iload_n 2) 1) (zk cX4_tryAll 22 (.if_icmp .eq 69) 3))) (and (and (zk cX4_tryAll 25 (.lload_n 3) 1) (zk cX4_tryAll 26 (.aload_n 0) 1)) (and (zk cX4_tryAll 27 (.getfield 18) 3) (zk cX4_tryAll 30 (.iload 7) 2))))) (and (and (and (and (zk cX4_tryAll 32 (.iload_n 1) 1) (zk cX4_tryAll 33 (.invokevirtual 32) 3)) (and (zk cX4_tryAll 36 (.ldc2_w 60) 3) (zk cX4_tryAll 39 (.lxor) 1))) (and (and (zk cX4_tryAll 40 (.land) 1) (zk cX4_tryAll 41 (.lconst 0) 1)) (and (zk cX4_tryAll 42 (.lcmp) 1) (zk cX4_tryAll 43 (.ifCond .eq 48) 3)))) (and (and (and (zk cX4_tryAll 46 (.aload_n 0) 1) (zk cX4_tryAll 47 (.iload_n 1) 1)) (and (zk cX4_tryAll 48 (.iload 7) 2) (zk cX4_tryAll 50 (.lload_n 3) 1))) (and (and (zk cX4_tryAll 51 (.iload 6) 2) (zk cX4_tryAll 53 (.invokevirtual 62) 3)) (and (zk cX4_tryAll 56 (.istore 8) 2) (zk cX4_tryAll 58 (.iload 8) 2)))))) = true := by decide +kernel
theorem dX4_tryAll_91 : decode cX4_tryAll 91 = .ok (.iinc 7 1, 3) := zk_of (zk_l (zk_l (zk_l (zk_l (zk_l zdX4_tryAll_91)))))
theorem dX4_tryAll_94 : decode cX4_tryAll 94 = .ok (.goto (-87), 3) := zk_of (zk_r (zk_l (zk_l (zk_l (zk_l zdX4_tryAll_91)))))
theorem dX4_tryAll_7 : decode cX4_tryAll 7 = .ok (.iload 7, 2) := zk_of (zk_l (zk_r (zk_l (zk_l (zk_l zdX4_tryAll_91)))))
theorem dX4_tryAll_9 : decode cX4_tryAll 9 = .ok (.aload_n 0, 1) := zk_of (zk_r (zk_r (zk_l (zk_l (zk_l zdX4_tryAll_91)))))
theorem dX4_tryAll_10 : decode cX4_tryAll 10 = .ok (.getfield 18, 3) := zk_of (zk_l (zk_l (zk_r (zk_l (zk_l zdX4_tryAll_91)))))
theorem dX4_tryAll_13 : decode cX4_tryAll 13 = .ok (.getfield 28, 3) := zk_of (zk_r (zk_l (zk_r (zk_l (zk_l zdX4_tryAll_91)))))
theorem dX4_tryAll_16 : decode cX4_tryAll 16 = .ok (.if_icmp .ge 81, 3) := zk_of (zk_l (zk_r (zk_r (zk_l (zk_l zdX4_tryAll_91)))))
theorem dX4_tryAll_97 : decode cX4_tryAll 97 = .ok (.iload 6, 2) := zk_of (zk_r (zk_r (zk_r (zk_l (zk_l zdX4_tryAll_91)))))
theorem dX4_tryAll_99 : decode cX4_tryAll 99 = .ok (.ireturn, 1) := zk_of (zk_l (zk_l (zk_l (zk_r (zk_l zdX4_tryAll_91)))))
theorem dX4_tryAll_19 : decode cX4_tryAll 19 = .ok (.iload 7, 2) := zk_of (zk_r (zk_l (zk_l (zk_r (zk_l zdX4_tryAll_91)))))
theorem dX4_tryAll_21 : decode cX4_tryAll 21 = .ok (.iload_n 2, 1) := zk_of (zk_l (zk_r (zk_l (zk_r (zk_l zdX4_tryAll_91)))))
theorem dX4_tryAll_22 : decode cX4_tryAll 22 = .ok (.if_icmp .eq 69, 3) := zk_of (zk_r (zk_r (zk_l (zk_r (zk_l zdX4_tryAll_91)))))
theorem dX4_tryAll_25 : decode cX4_tryAll 25 = .ok (.lload_n 3, 1) := zk_of (zk_l (zk_l (zk_r (zk_r (zk_l zdX4_tryAll_91)))))
theorem dX4_tryAll_26 : decode cX4_tryAll 26 = .ok (.aload_n 0, 1) := zk_of (zk_r (zk_l (zk_r (zk_r (zk_l zdX4_tryAll_91)))))
theorem dX4_tryAll_27 : decode cX4_tryAll 27 = .ok (.getfield 18, 3) := zk_of (zk_l (zk_r (zk_r (zk_r (zk_l zdX4_tryAll_91)))))
theorem dX4_tryAll_30 : decode cX4_tryAll 30 = .ok (.iload 7, 2) := zk_of (zk_r (zk_r (zk_r (zk_r (zk_l zdX4_tryAll_91)))))
theorem dX4_tryAll_32 : decode cX4_tryAll 32 = .ok (.iload_n 1, 1) := zk_of (zk_l (zk_l (zk_l (zk_l (zk_r zdX4_tryAll_91)))))
theorem dX4_tryAll_33 : decode cX4_tryAll 33 = .ok (.invokevirtual 32, 3) := zk_of (zk_r (zk_l (zk_l (zk_l (zk_r zdX4_tryAll_91)))))
theorem dX4_tryAll_36 : decode cX4_tryAll 36 = .ok (.ldc2_w 60, 3) := zk_of (zk_l (zk_r (zk_l (zk_l (zk_r zdX4_tryAll_91)))))
theorem dX4_tryAll_39 : decode cX4_tryAll 39 = .ok (.lxor, 1) := zk_of (zk_r (zk_r (zk_l (zk_l (zk_r zdX4_tryAll_91)))))
theorem dX4_tryAll_40 : decode cX4_tryAll 40 = .ok (.land, 1) := zk_of (zk_l (zk_l (zk_r (zk_l (zk_r zdX4_tryAll_91)))))
theorem dX4_tryAll_41 : decode cX4_tryAll 41 = .ok (.lconst 0, 1) := zk_of (zk_r (zk_l (zk_r (zk_l (zk_r zdX4_tryAll_91)))))
theorem dX4_tryAll_42 : decode cX4_tryAll 42 = .ok (.lcmp, 1) := zk_of (zk_l (zk_r (zk_r (zk_l (zk_r zdX4_tryAll_91)))))
theorem dX4_tryAll_43 : decode cX4_tryAll 43 = .ok (.ifCond .eq 48, 3) := zk_of (zk_r (zk_r (zk_r (zk_l (zk_r zdX4_tryAll_91)))))
theorem dX4_tryAll_46 : decode cX4_tryAll 46 = .ok (.aload_n 0, 1) := zk_of (zk_l (zk_l (zk_l (zk_r (zk_r zdX4_tryAll_91)))))
theorem dX4_tryAll_47 : decode cX4_tryAll 47 = .ok (.iload_n 1, 1) := zk_of (zk_r (zk_l (zk_l (zk_r (zk_r zdX4_tryAll_91)))))
theorem dX4_tryAll_48 : decode cX4_tryAll 48 = .ok (.iload 7, 2) := zk_of (zk_l (zk_r (zk_l (zk_r (zk_r zdX4_tryAll_91)))))
theorem dX4_tryAll_50 : decode cX4_tryAll 50 = .ok (.lload_n 3, 1) := zk_of (zk_r (zk_r (zk_l (zk_r (zk_r zdX4_tryAll_91)))))
theorem dX4_tryAll_51 : decode cX4_tryAll 51 = .ok (.iload 6, 2) := zk_of (zk_l (zk_l (zk_r (zk_r (zk_r zdX4_tryAll_91)))))
theorem dX4_tryAll_53 : decode cX4_tryAll 53 = .ok (.invokevirtual 62, 3) := zk_of (zk_r (zk_l (zk_r (zk_r (zk_r zdX4_tryAll_91)))))
theorem dX4_tryAll_56 : decode cX4_tryAll 56 = .ok (.istore 8, 2) := zk_of (zk_l (zk_r (zk_r (zk_r (zk_r zdX4_tryAll_91)))))
theorem dX4_tryAll_58 : decode cX4_tryAll 58 = .ok (.iload 8, 2) := zk_of (zk_r (zk_r (zk_r (zk_r (zk_r zdX4_tryAll_91)))))
set_option maxRecDepth 20000 in
theorem ggX4_tryAll_X2_knownBy : GoodIn wsX4_tryAll wsX2_knownBy := ggi (fun w h => List.mem_cons_of_mem _ (List.mem_append_left _ (List.mem_append_left _ (List.mem_append_right _ (List.mem_append_left _ h))))) gs_X2_knownBy
set_option maxRecDepth 20000 in
theorem gX4_tryAll_X2_knownBy : GoodIn wsX4_tryAll (wsV RX4 32 RX2 yX2_knownBy wsX2_knownBy) := goodIn_app (goodIn_of _ (by decide +kernel)) ggX4_tryAll_X2_knownBy
set_option maxRecDepth 20000 in
theorem ggX4_tryAll_X4_meetingBy : GoodIn wsX4_tryAll wsX4_meetingBy := ggi (fun w h => List.mem_cons_of_mem _ (List.mem_append_left _ (List.mem_append_left _ (List.mem_append_right _ (List.mem_append_right _ h))))) gs_X4_meetingBy
set_option maxRecDepth 20000 in
theorem gX4_tryAll_X4_meetingBy : GoodIn wsX4_tryAll (wsV RX4 62 RX4 yX4_meetingBy wsX4_meetingBy) := goodIn_app (goodIn_of _ (by decide +kernel)) ggX4_tryAll_X4_meetingBy
theorem zdX4_tryAll_60 : (and (and (and (and (and (zk cX4_tryAll 60 (.iload 6) 2) (zk cX4_tryAll 62 (.if_icmp .ge 29) 3)) (zk cX4_tryAll 65 (.iload 8) 2)) (and (zk cX4_tryAll 67 (.istore 6) 2) (zk cX4_tryAll 69 (.aload_n 0) 1))) (and (and (and (zk cX4_tryAll 70 (.iload_n 2) 1) (zk cX4_tryAll 71 (.putfield 40) 3)) (zk cX4_tryAll 74 (.aload_n 0) 1)) (and (zk cX4_tryAll 75 (.iload 7) 2) (zk cX4_tryAll 77 (.putfield 43) 3)))) (and (and (and (and (zk cX4_tryAll 80 (.aload_n 0) 1) (zk cX4_tryAll 81 (.iload_n 1) 1)) (zk cX4_tryAll 82 (.putfield 46) 3)) (and (zk cX4_tryAll 85 (.aload_n 0) 1) (zk cX4_tryAll 86 (.iload 8) 2))) (and (and (and (zk cX4_tryAll 88 (.putfield 49) 3) (zk cX4_tryAll 0 (.iload 5) 2)) (zk cX4_tryAll 2 (.istore 6) 2)) (and (zk cX4_tryAll 4 (.iconst 0) 1) (zk cX4_tryAll 5 (.istore 7) 2))))) = true := by decide +kernel
theorem dX4_tryAll_60 : decode cX4_tryAll 60 = .ok (.iload 6, 2) := zk_of (zk_l (zk_l (zk_l (zk_l (zk_l zdX4_tryAll_60)))))
theorem dX4_tryAll_62 : decode cX4_tryAll 62 = .ok (.if_icmp .ge 29, 3) := zk_of (zk_r (zk_l (zk_l (zk_l (zk_l zdX4_tryAll_60)))))
theorem dX4_tryAll_65 : decode cX4_tryAll 65 = .ok (.iload 8, 2) := zk_of (zk_r (zk_l (zk_l (zk_l zdX4_tryAll_60))))
theorem dX4_tryAll_67 : decode cX4_tryAll 67 = .ok (.istore 6, 2) := zk_of (zk_l (zk_r (zk_l (zk_l zdX4_tryAll_60))))
theorem dX4_tryAll_69 : decode cX4_tryAll 69 = .ok (.aload_n 0, 1) := zk_of (zk_r (zk_r (zk_l (zk_l zdX4_tryAll_60))))
theorem dX4_tryAll_70 : decode cX4_tryAll 70 = .ok (.iload_n 2, 1) := zk_of (zk_l (zk_l (zk_l (zk_r (zk_l zdX4_tryAll_60)))))
theorem dX4_tryAll_71 : decode cX4_tryAll 71 = .ok (.putfield 40, 3) := zk_of (zk_r (zk_l (zk_l (zk_r (zk_l zdX4_tryAll_60)))))
theorem dX4_tryAll_74 : decode cX4_tryAll 74 = .ok (.aload_n 0, 1) := zk_of (zk_r (zk_l (zk_r (zk_l zdX4_tryAll_60))))
theorem dX4_tryAll_75 : decode cX4_tryAll 75 = .ok (.iload 7, 2) := zk_of (zk_l (zk_r (zk_r (zk_l zdX4_tryAll_60))))
theorem dX4_tryAll_77 : decode cX4_tryAll 77 = .ok (.putfield 43, 3) := zk_of (zk_r (zk_r (zk_r (zk_l zdX4_tryAll_60))))
theorem dX4_tryAll_80 : decode cX4_tryAll 80 = .ok (.aload_n 0, 1) := zk_of (zk_l (zk_l (zk_l (zk_l (zk_r zdX4_tryAll_60)))))
theorem dX4_tryAll_81 : decode cX4_tryAll 81 = .ok (.iload_n 1, 1) := zk_of (zk_r (zk_l (zk_l (zk_l (zk_r zdX4_tryAll_60)))))
theorem dX4_tryAll_82 : decode cX4_tryAll 82 = .ok (.putfield 46, 3) := zk_of (zk_r (zk_l (zk_l (zk_r zdX4_tryAll_60))))
theorem dX4_tryAll_85 : decode cX4_tryAll 85 = .ok (.aload_n 0, 1) := zk_of (zk_l (zk_r (zk_l (zk_r zdX4_tryAll_60))))
theorem dX4_tryAll_86 : decode cX4_tryAll 86 = .ok (.iload 8, 2) := zk_of (zk_r (zk_r (zk_l (zk_r zdX4_tryAll_60))))
theorem dX4_tryAll_88 : decode cX4_tryAll 88 = .ok (.putfield 49, 3) := zk_of (zk_l (zk_l (zk_l (zk_r (zk_r zdX4_tryAll_60)))))
theorem dX4_tryAll_0 : decode cX4_tryAll 0 = .ok (.iload 5, 2) := zk_of (zk_r (zk_l (zk_l (zk_r (zk_r zdX4_tryAll_60)))))
theorem dX4_tryAll_2 : decode cX4_tryAll 2 = .ok (.istore 6, 2) := zk_of (zk_r (zk_l (zk_r (zk_r zdX4_tryAll_60))))
theorem dX4_tryAll_4 : decode cX4_tryAll 4 = .ok (.iconst 0, 1) := zk_of (zk_l (zk_r (zk_r (zk_r zdX4_tryAll_60))))
theorem dX4_tryAll_5 : decode cX4_tryAll 5 = .ok (.istore 7, 2) := zk_of (zk_r (zk_r (zk_r (zk_r zdX4_tryAll_60))))
/-- HissHorn$Meeting.tryAll(IIJI)I of cell 12 -/
def rmX4_tryAll_12 : Room := { frames := 4, cells := 0, slots := 0, locals := 91 }
theorem hX4_tryAll_12_X4 : ∀ w ∈ u_ws RX4 TX4 7, w ∈ wsX4_tryAll := fun w h => (List.mem_cons_of_mem _ (List.mem_append_left _ (List.mem_append_right _ h)))
theorem mX4_tryAll_12_1 : Cond.fieldLink RX4 18 "HissHorn$Meeting" "houses" "LHissHorn$Houses;" ∈ wsX4_tryAll := (List.mem_cons_of_mem _ (List.mem_append_left _ (List.mem_append_left _ (List.mem_append_left _ (List.mem_of_getElem? (i := 8) rfl)))))
theorem hX4_tryAll_12_X2 : ∀ w ∈ u_ws RX2 TX2 18, w ∈ wsX4_tryAll := fun w h => (List.mem_cons_of_mem _ (List.mem_append_right _ h))
theorem mX4_tryAll_12_3 : Cond.fieldLink RX4 28 "HissHorn$Houses" "size" "I" ∈ wsX4_tryAll := (List.mem_cons_of_mem _ (List.mem_append_left _ (List.mem_append_left _ (List.mem_append_left _ (List.mem_of_getElem? (i := 9) rfl)))))
def GX4_tryAll_12_91 (k7 : Int32 → Int32 → Int64 → Int32 → Int32 → SX → Option (Int32 × SX)) (z1 : Int32) (z2 : Int32) (z3 : Int64) (z6 : Int32) (z7 : Int32) (u : SX) : Option (Int32 × SX) := (k7 z1 z2 z3 z6 (z7 + 1) u)
theorem mX4_tryAll_12_4 : Cond.constantLong RX4 60 (-1) ∈ wsX4_tryAll := (List.mem_cons_of_mem _ (List.mem_append_left _ (List.mem_append_left _ (List.mem_append_left _ (List.mem_of_getElem? (i := 10) rfl)))))
theorem mX4_tryAll_12_5 : Cond.fieldLink RX4 40 "HissHorn$Meeting" "bestFrom" "I" ∈ wsX4_tryAll := (List.mem_cons_of_mem _ (List.mem_append_left _ (List.mem_append_left _ (List.mem_append_left _ (List.mem_of_getElem? (i := 11) rfl)))))
theorem mX4_tryAll_12_6 : Cond.fieldLink RX4 43 "HissHorn$Meeting" "bestTo" "I" ∈ wsX4_tryAll := (List.mem_cons_of_mem _ (List.mem_append_left _ (List.mem_append_left _ (List.mem_append_left _ (List.mem_of_getElem? (i := 12) rfl)))))
theorem mX4_tryAll_12_7 : Cond.fieldLink RX4 46 "HissHorn$Meeting" "bestDay" "I" ∈ wsX4_tryAll := (List.mem_cons_of_mem _ (List.mem_append_left _ (List.mem_append_left _ (List.mem_append_left _ (List.mem_of_getElem? (i := 13) rfl)))))
theorem mX4_tryAll_12_8 : Cond.fieldLink RX4 49 "HissHorn$Meeting" "bestMeeting" "I" ∈ wsX4_tryAll := (List.mem_cons_of_mem _ (List.mem_append_left _ (List.mem_append_left _ (List.mem_append_left _ (List.mem_of_getElem? (i := 14) rfl)))))
def LX4_tryAll_12_7  : Nat → Int32 → Int32 → Int64 → Int32 → Int32 → SX → Option (Int32 × SX)
  | 0, _, _, _, _, _, _ => none
  | n + 1, z1, z2, z3, z6, z7, u => (if (u.1 35) ≤ z7 then (some (z6, u)) else (if z7 = z2 then (GX4_tryAll_12_91 (LX4_tryAll_12_7 n) z1 z2 z3 z6 z7 u) else ((fX2_knownBy_11 z7 z1 u).bind fun q => match q with | (r1, u2) => (if (lg_cmp (z3 &&& (r1 ^^^ (-1))) 0) = 0 then (GX4_tryAll_12_91 (LX4_tryAll_12_7 n) z1 z2 z3 z6 z7 u2) else ((fX4_meetingBy_12 z1 z7 z3 z6 u2).bind fun q => match q with | (r4, u5) => (if z6 ≤ r4 then (GX4_tryAll_12_91 (LX4_tryAll_12_7 n) z1 z2 z3 z6 z7 u5) else (lt (sI u5 40 z2) fun u7 => (lt (sI u7 41 z7) fun u9 => (lt (sI u9 42 z1) fun u11 => (lt (sI u11 43 r4) fun u13 => (GX4_tryAll_12_91 (LX4_tryAll_12_7 n) z1 z2 z3 r4 z7 u13)))))))))))
def fX4_tryAll_12 (x1 : Int32) (x2 : Int32) (x3 : Int64) (x5 : Int32) (u : SX) : Option (Int32 × SX) := (LX4_tryAll_12_7  5000 x1 x2 x3 x5 0 u)
set_option maxHeartbeats 4000000 in
set_option maxRecDepth 100000 in
theorem wGX4_tryAll_12_91 {p : Program} {l : Launch} {e : Env} {s : State} {m : MethodId} {args : Array Value} {below : List Frame} {meth : Method} {c : Code} {D : va_G} {cy : Nat → ClassId} {ad st : Nat → Nat} (C : Cx RX4 cX4_tryAll 9 (some .int) wsX4_tryAll p s m args meth c) (hK : Ky D [(cy 0, .int), (cy 1, .long), (cy 2, .boolean), (cy 3, .byte), (cy 4, .object "HissHorn$Text")] st s) (hJ : JX ad st) {r : Int32} {u' : SX} {k7 : Int32 → Int32 → Int64 → Int32 → Int32 → SX → Option (Int32 × SX)} (hk7 : ∀ (z1 : Int32) (z2 : Int32) (z3 : Int64) (z6 : Int32) (z7 : Int32) (u : SX) (H : Heap) (locs : List Loc) (ls : Array Slot), k7 z1 z2 z3 z6 z7 u = some (r, u') → va_P D vwCl (VX cy ad st u) H → va_S (Ax (AX ad) s.heap.size) s.heap H locs → lv_has ls 9 [(0, .ref (ad 12)), (1, .int z1), (2, .int z2), (3, .long z3), (6, .int z6), (7, .int z7)] → W p l e rmX4_tryAll_12 s m args below meth c H locs 0 0 (MQ below (Qi D (VX cy ad st) (AX ad) s.heap.size r u') args s 0 0 (Ax (AX ad) s.heap.size)) (F0 m 7 ls [])) (z1 : Int32) (z2 : Int32) (z3 : Int64) (z6 : Int32) (z7 : Int32) (u : SX) (H : Heap) (locs : List Loc) (ls : Array Slot) (h : GX4_tryAll_12_91 k7 z1 z2 z3 z6 z7 u = some (r, u')) (hP : va_P D vwCl (VX cy ad st u) H) (hS : va_S (Ax (AX ad) s.heap.size) s.heap H locs) (hl : lv_has ls 9 [(0, .ref (ad 12)), (1, .int z1), (2, .int z2), (3, .long z3), (6, .int z6), (7, .int z7)]) : W p l e rmX4_tryAll_12 s m args below meth c H locs 0 0 (MQ below (Qi D (VX cy ad st) (AX ad) s.heap.size r u') args s 0 0 (Ax (AX ad) s.heap.size)) (F0 m 91 ls []) := by
  unfold GX4_tryAll_12_91 at h
  refine lv_iinc (v := z7 + 1) (lv' := [(7, .int (z7 + 1)), (0, .ref (ad 12)), (1, .int z1), (2, .int z2), (3, .long z3), (6, .int z6)]) C.1 C.2.1 dX4_tryAll_91 hl (k := 5) rfl rfl (by decide) rfl (fun ls hl => ?_)
  replace hl := lv_sub (l' := [(0, .ref (ad 12)), (1, .int z1), (2, .int z2), (3, .long z3), (6, .int z6), (7, .int (z7 + 1))]) hl [1, 2, 3, 4, 5, 0] rfl
  refine lv_goto (tgt := 7) C.1 C.2.1 dX4_tryAll_94 (by decide) ?_
  exact hk7 _ _ _ _ _ _ _ _ _ h hP hS hl
set_option maxHeartbeats 4000000 in
set_option maxRecDepth 100000 in
theorem wLX4_tryAll_12_7 {p : Program} {l : Launch} {e : Env} {s : State} {m : MethodId} {args : Array Value} {below : List Frame} {meth : Method} {c : Code} {D : va_G} {cy : Nat → ClassId} {ad st : Nat → Nat} (C : Cx RX4 cX4_tryAll 9 (some .int) wsX4_tryAll p s m args meth c) (hK : Ky D [(cy 0, .int), (cy 1, .long), (cy 2, .boolean), (cy 3, .byte), (cy 4, .object "HissHorn$Text")] st s) (hJ : JX ad st) {r : Int32} {u' : SX}   : ∀ (n : Nat) (z1 : Int32) (z2 : Int32) (z3 : Int64) (z6 : Int32) (z7 : Int32) (u : SX) (H : Heap) (locs : List Loc) (ls : Array Slot), LX4_tryAll_12_7  n z1 z2 z3 z6 z7 u = some (r, u') → va_P D vwCl (VX cy ad st u) H → va_S (Ax (AX ad) s.heap.size) s.heap H locs → lv_has ls 9 [(0, .ref (ad 12)), (1, .int z1), (2, .int z2), (3, .long z3), (6, .int z6), (7, .int z7)] → W p l e rmX4_tryAll_12 s m args below meth c H locs 0 0 (MQ below (Qi D (VX cy ad st) (AX ad) s.heap.size r u') args s 0 0 (Ax (AX ad) s.heap.size)) (F0 m 7 ls []) := by
  intro n
  induction n with
  | zero =>
    intro z1 z2 z3 z6 z7 u H locs ls h
    exact absurd h (by intro q; cases q)
  | succ n ih =>
    intro z1 z2 z3 z6 z7 u H locs ls h hP hS hl
    rw [LX4_tryAll_12_7] at h
    refine lv_iload C.1 C.2.1 dX4_tryAll_7 (lv_at hl 5 rfl) ?_
    refine lv_aload_n C.1 C.2.1 dX4_tryAll_9 rfl (lv_at hl 0 rfl) ?_
    refine gX_12_houses C hX4_tryAll_12_X4 hK hP mX4_tryAll_12_1 dX4_tryAll_10 ?_
    refine gX_11_size C hX4_tryAll_12_X2 hK hP mX4_tryAll_12_3 dX4_tryAll_13 ?_
    refine lv_icmp_ge (tgt := 97) C.1 C.2.1 dX4_tryAll_16 (by decide) (fun c16 => ?_) (fun c16 => ?_)
    · rw [if_pos c16] at h
      refine lv_iload C.1 C.2.1 dX4_tryAll_97 (lv_at hl 4 rfl) ?_
      cases h
      exact rt_i C hP hS dX4_tryAll_99
    · rw [if_neg c16] at h
      refine lv_iload C.1 C.2.1 dX4_tryAll_19 (lv_at hl 5 rfl) ?_
      refine lv_iload_n C.1 C.2.1 dX4_tryAll_21 rfl (lv_at hl 2 rfl) ?_
      refine lv_icmp_eq (tgt := 91) C.1 C.2.1 dX4_tryAll_22 (by decide) (fun c22 => ?_) (fun c22 => ?_)
      · rw [if_pos c22] at h
        exact wGX4_tryAll_12_91 C hK hJ ih _ _ _ _ _ _ _ _ _ h hP hS hl
      · rw [if_neg c22] at h
        refine lv_lload_n C.1 C.2.1 dX4_tryAll_25 rfl (lv_at hl 3 rfl) ?_
        refine lv_aload_n C.1 C.2.1 dX4_tryAll_26 rfl (lv_at hl 0 rfl) ?_
        refine gX_12_houses C hX4_tryAll_12_X4 hK hP mX4_tryAll_12_1 dX4_tryAll_27 ?_
        refine lv_iload C.1 C.2.1 dX4_tryAll_30 (lv_at hl 5 rfl) ?_
        refine lv_iload_n C.1 C.2.1 dX4_tryAll_32 rfl (lv_at hl 1 rfl) ?_
        obtain ⟨⟨r1, u2⟩, hc3, h⟩ := bd_some h
        try dsimp only at h
        refine cg_l (As := [.int z7, .int z1]) (rest := [.long z3]) (AX_ge hJ) C hK hP hS (metX2_knownBy_11 l D cy ad st hJ _ z7 z1 hc3) (cwV 2 C.2.2.2.2.2.1 gX4_tryAll_X2_knownBy rfl rfl rfl (by decide +kernel) ⟨(Nat.le_of_ble_eq_true rfl), (Nat.le_of_ble_eq_true rfl)⟩) 11 2 rfl rfl rfl hl.1 rfl (Nat.le_of_ble_eq_true rfl) dX4_tryAll_33 ⟨Nat.zero_le _, Nat.zero_le _⟩ (fun H locs hP hS => ?_)
        refine lv_ldc2 C.1 C.2.1 C.2.2.2.2.1 (C.2.2.2.2.2.1 _ mX4_tryAll_12_4) dX4_tryAll_36 ?_
        refine lv_lxor C.1 C.2.1 dX4_tryAll_39 ?_
        refine lv_land C.1 C.2.1 dX4_tryAll_40 ?_
        refine lv_lconst (v := 0) C.1 C.2.1 dX4_tryAll_41 (by decide) ?_
        refine W.lcmp C.1 C.2.1 dX4_tryAll_42 ?_
        refine lv_if_eq (tgt := 91) C.1 C.2.1 dX4_tryAll_43 (by decide) (fun c43 => ?_) (fun c43 => ?_)
        · rw [if_pos c43] at h
          exact wGX4_tryAll_12_91 C hK hJ ih _ _ _ _ _ _ _ _ _ h hP hS hl
        · rw [if_neg c43] at h
          refine lv_aload_n C.1 C.2.1 dX4_tryAll_46 rfl (lv_at hl 0 rfl) ?_
          refine lv_iload_n C.1 C.2.1 dX4_tryAll_47 rfl (lv_at hl 1 rfl) ?_
          refine lv_iload C.1 C.2.1 dX4_tryAll_48 (lv_at hl 5 rfl) ?_
          refine lv_lload_n C.1 C.2.1 dX4_tryAll_50 rfl (lv_at hl 3 rfl) ?_
          refine lv_iload C.1 C.2.1 dX4_tryAll_51 (lv_at hl 4 rfl) ?_
          obtain ⟨⟨r4, u5⟩, hc6, h⟩ := bd_some h
          try dsimp only at h
          refine cg_i (As := [.int z1, .int z7, .long z3, .int z6]) (rest := []) (AX_ge hJ) C hK hP hS (metX4_meetingBy_12 l D cy ad st hJ _ z1 z7 z3 z6 hc6) (cwV 4 C.2.2.2.2.2.1 gX4_tryAll_X4_meetingBy rfl rfl rfl (by decide +kernel) ⟨(Nat.le_of_ble_eq_true rfl), (Nat.le_of_ble_eq_true rfl)⟩) 12 4 rfl rfl rfl hl.1 rfl (Nat.le_of_ble_eq_true rfl) dX4_tryAll_53 ⟨Nat.zero_le _, Nat.zero_le _⟩ (fun H locs hP hS => ?_)
          refine lv_istore (lv' := [(8, .int r4), (0, .ref (ad 12)), (1, .int z1), (2, .int z2), (3, .long z3), (6, .int z6), (7, .int z7)]) C.1 C.2.1 dX4_tryAll_56 hl (by decide) rfl (fun ls hl => ?_)
          replace hl := lv_sub (l' := [(0, .ref (ad 12)), (1, .int z1), (2, .int z2), (3, .long z3), (6, .int z6), (7, .int z7), (8, .int r4)]) hl [1, 2, 3, 4, 5, 6, 0] rfl
          refine lv_iload C.1 C.2.1 dX4_tryAll_58 (lv_at hl 6 rfl) ?_
          refine lv_iload C.1 C.2.1 dX4_tryAll_60 (lv_at hl 4 rfl) ?_
          refine lv_icmp_ge (tgt := 91) C.1 C.2.1 dX4_tryAll_62 (by decide) (fun c62 => ?_) (fun c62 => ?_)
          · rw [if_pos c62] at h
            exact wGX4_tryAll_12_91 C hK hJ ih _ _ _ _ _ _ _ _ _ h hP hS (lv_sub hl [0, 1, 2, 3, 4, 5] rfl)
          · rw [if_neg c62] at h
            refine lv_iload C.1 C.2.1 dX4_tryAll_65 (lv_at hl 6 rfl) ?_
            refine lv_istore (lv' := [(6, .int r4), (0, .ref (ad 12)), (1, .int z1), (2, .int z2), (3, .long z3), (7, .int z7), (8, .int r4)]) C.1 C.2.1 dX4_tryAll_67 hl (by decide) rfl (fun ls hl => ?_)
            replace hl := lv_sub (l' := [(0, .ref (ad 12)), (1, .int z1), (2, .int z2), (3, .long z3), (6, .int r4), (7, .int z7), (8, .int r4)]) hl [1, 2, 3, 4, 0, 5, 6] rfl
            refine lv_aload_n C.1 C.2.1 dX4_tryAll_69 rfl (lv_at hl 0 rfl) ?_
            refine lv_iload_n C.1 C.2.1 dX4_tryAll_70 rfl (lv_at hl 2 rfl) ?_
            refine pX_12_bestFrom C hX4_tryAll_12_X4 hK hP hJ hS mX4_tryAll_12_5 dX4_tryAll_71 (fun H locs hP hS => ?_)
            obtain ⟨u7, hu8, h⟩ := lt_some h
            rw [← hu8] at hP
            refine lv_aload_n C.1 C.2.1 dX4_tryAll_74 rfl (lv_at hl 0 rfl) ?_
            refine lv_iload C.1 C.2.1 dX4_tryAll_75 (lv_at hl 5 rfl) ?_
            refine pX_12_bestTo C hX4_tryAll_12_X4 hK hP hJ hS mX4_tryAll_12_6 dX4_tryAll_77 (fun H locs hP hS => ?_)
            obtain ⟨u9, hu10, h⟩ := lt_some h
            rw [← hu10] at hP
            refine lv_aload_n C.1 C.2.1 dX4_tryAll_80 rfl (lv_at hl 0 rfl) ?_
            refine lv_iload_n C.1 C.2.1 dX4_tryAll_81 rfl (lv_at hl 1 rfl) ?_
            refine pX_12_bestDay C hX4_tryAll_12_X4 hK hP hJ hS mX4_tryAll_12_7 dX4_tryAll_82 (fun H locs hP hS => ?_)
            obtain ⟨u11, hu12, h⟩ := lt_some h
            rw [← hu12] at hP
            refine lv_aload_n C.1 C.2.1 dX4_tryAll_85 rfl (lv_at hl 0 rfl) ?_
            refine lv_iload C.1 C.2.1 dX4_tryAll_86 (lv_at hl 6 rfl) ?_
            refine pX_12_bestMeeting C hX4_tryAll_12_X4 hK hP hJ hS mX4_tryAll_12_8 dX4_tryAll_88 (fun H locs hP hS => ?_)
            obtain ⟨u13, hu14, h⟩ := lt_some h
            rw [← hu14] at hP
            exact wGX4_tryAll_12_91 C hK hJ ih _ _ _ _ _ _ _ _ _ h hP hS (lv_sub hl [0, 1, 2, 3, 4, 5] rfl)
set_option maxHeartbeats 4000000 in
set_option maxRecDepth 100000 in
theorem wX4_tryAll_12 {p : Program} {l : Launch} {e : Env} {s : State} {m : MethodId} {args : Array Value} {below : List Frame} {meth : Method} {c : Code} {D : va_G} {cy : Nat → ClassId} {ad st : Nat → Nat} (C : Cx RX4 cX4_tryAll 9 (some .int) wsX4_tryAll p s m args meth c) (hK : Ky D [(cy 0, .int), (cy 1, .long), (cy 2, .boolean), (cy 3, .byte), (cy 4, .object "HissHorn$Text")] st s) (hJ : JX ad st) (x1 : Int32) (x2 : Int32) (x3 : Int64) (x5 : Int32) {u : SX} {r : Int32} {u' : SX} {H : Heap} {locs : List Loc} {ls : Array Slot} (h : fX4_tryAll_12 x1 x2 x3 x5 u = some (r, u')) (hP : va_P D vwCl (VX cy ad st u) H) (hS : va_S (Ax (AX ad) s.heap.size) s.heap H locs) (hl : lv_has ls 9 [(0, .ref (ad 12)), (1, .int x1), (2, .int x2), (3, .long x3), (5, .int x5)]) : W p l e rmX4_tryAll_12 s m args below meth c H locs 0 0 (MQ below (Qi D (VX cy ad st) (AX ad) s.heap.size r u') args s 0 0 (Ax (AX ad) s.heap.size)) (F0 m 0 ls []) := by
  unfold fX4_tryAll_12 at h
  refine lv_iload C.1 C.2.1 dX4_tryAll_0 (lv_at hl 4 rfl) ?_
  refine lv_istore (lv' := [(6, .int x5), (0, .ref (ad 12)), (1, .int x1), (2, .int x2), (3, .long x3), (5, .int x5)]) C.1 C.2.1 dX4_tryAll_2 hl (by decide) rfl (fun ls hl => ?_)
  replace hl := lv_sub (l' := [(0, .ref (ad 12)), (1, .int x1), (2, .int x2), (3, .long x3), (5, .int x5), (6, .int x5)]) hl [1, 2, 3, 4, 5, 0] rfl
  refine lv_iconst (v := 0) C.1 C.2.1 dX4_tryAll_4 (by decide) ?_
  refine lv_istore (lv' := [(7, .int 0), (0, .ref (ad 12)), (1, .int x1), (2, .int x2), (3, .long x3), (5, .int x5), (6, .int x5)]) C.1 C.2.1 dX4_tryAll_5 hl (by decide) rfl (fun ls hl => ?_)
  replace hl := lv_sub (l' := [(0, .ref (ad 12)), (1, .int x1), (2, .int x2), (3, .long x3), (5, .int x5), (6, .int x5), (7, .int 0)]) hl [1, 2, 3, 4, 5, 6, 0] rfl
  exact wLX4_tryAll_12_7 C hK hJ  5000 _ _ _ _ _ _ _ _ _ h hP hS (lv_sub hl [0, 1, 2, 3, 5, 6] rfl)
theorem metX4_tryAll_12 (l : Launch) (D : va_G) (cy : Nat → ClassId) (ad st : Nat → Nat) (hJ : JX ad st) (sz : Nat) (x1 : Int32) (x2 : Int32) (x3 : Int64) (x5 : Int32) {u : SX} {r : Int32} {u' : SX} (h : fX4_tryAll_12 x1 x2 x3 x5 u = some (r, u')) : Met l yX4_tryAll wsX4_tryAll rmX4_tryAll_12 (va_Pc [.ref (ad 12), .int x1, .int x2, .long x3, .int x5] (Px D [(cy 0, .int), (cy 1, .long), (cy 2, .boolean), (cy 3, .byte), (cy 4, .object "HissHorn$Text")] st (VX cy ad st) sz u)) (Qi D (VX cy ad st) (AX ad) sz r u') 0 0 (Ax (AX ad) sz) := by
  refine Met.ofW (cc := cX4_tryAll) (maxL := 9) (ret := (some .int)) (by decide) rfl ?_
  intro p e s m args below meth c s₁ B hml hv
  obtain ⟨rfl, hsz, hP, hK⟩ := hv
  subst hsz
  have C : Cx RX4 cX4_tryAll 9 (some .int) wsX4_tryAll p s m _ meth c := ⟨B.exec, B.bytes, hml, B.returns, findClass_of_methodNamed B.named, atoms_spec (ws := wsX4_tryAll) B.pre, B.notSynchronized⟩
  have hl := lv_entry ([.ref (ad 12), .int x1, .int x2, .long x3, .int x5]) (n := 9) (Nat.le_of_ble_eq_true rfl)
  rw [lg_entry_eq]
  exact wX4_tryAll_12 C hK hJ x1 x2 x3 x5 h hP va_S.rf hl

theorem zdX4_search_103 : (and (and (and (and (and (zk cX4_search 103 (.iinc 4 1) 3) (zk cX4_search 106 (.goto (-74)) 3)) (and (zk cX4_search 32 (.iload 4) 2) (zk cX4_search 34 (.aload_n 0) 1))) (and (and (zk cX4_search 35 (.getfield 18) 3) (zk cX4_search 38 (.getfield 28) 3)) (and (zk cX4_search 41 (.if_icmp .ge 68) 3) (zk cX4_search 44 (.aload_n 0) 1)))) (and (and (and (zk cX4_search 45 (.getfield 18) 3) (zk cX4_search 48 (.iload 4) 2)) (and (zk cX4_search 50 (.iload_n 3) 1) (zk cX4_search 51 (.iconst 1) 1))) (and (and (zk cX4_search 52 (.isub) 1) (zk cX4_search 53 (.invokevirtual 32) 3)) (and (zk cX4_search 56 (.aload_n 0) 1) (zk cX4_search 57 (.getfield 18) 3))))) (and (and (and (and (zk cX4_search 60 (.getfield 52) 3) (zk cX4_search 63 (.land) 1)) (and (zk cX4_search 64 (.lstore 5) 2) (zk cX4_search 66 (.lload 5) 2))) (and (and (zk cX4_search 68 (.aload_n 0) 1) (zk cX4_search 69 (.getfield 18) 3)) (and (zk cX4_search 72 (.iload 4) 2) (zk cX4_search 74 (.iload_n 3) 1)))) (and (and (and (zk cX4_search 75 (.iconst 2) 1) (zk cX4_search 76 (.isub) 1)) (and (zk cX4_search 77 (.invokevirtual 32) 3) (zk cX4_search 80 (.aload_n 0) 1))) (and (and (zk cX4_search 81 (.getfield 18) 3) (zk cX4_search 84 (.getfield 52) 3)) (and (zk cX4_search 87 (.land) 1) (zk cX4_search 88 (.lcmp) 1)))))) = true := by decide +kernel
theorem dX4_search_103 : decode cX4_search 103 = .ok (.iinc 4 1, 3) := zk_of (zk_l (zk_l (zk_l (zk_l (zk_l zdX4_search_103)))))
theorem dX4_search_106 : decode cX4_search 106 = .ok (.goto (-74), 3) := zk_of (zk_r (zk_l (zk_l (zk_l (zk_l zdX4_search_103)))))
theorem dX4_search_32 : decode cX4_search 32 = .ok (.iload 4, 2) := zk_of (zk_l (zk_r (zk_l (zk_l (zk_l zdX4_search_103)))))
theorem dX4_search_34 : decode cX4_search 34 = .ok (.aload_n 0, 1) := zk_of (zk_r (zk_r (zk_l (zk_l (zk_l zdX4_search_103)))))
theorem dX4_search_35 : decode cX4_search 35 = .ok (.getfield 18, 3) := zk_of (zk_l (zk_l (zk_r (zk_l (zk_l zdX4_search_103)))))
theorem dX4_search_38 : decode cX4_search 38 = .ok (.getfield 28, 3) := zk_of (zk_r (zk_l (zk_r (zk_l (zk_l zdX4_search_103)))))
theorem dX4_search_41 : decode cX4_search 41 = .ok (.if_icmp .ge 68, 3) := zk_of (zk_l (zk_r (zk_r (zk_l (zk_l zdX4_search_103)))))
theorem dX4_search_44 : decode cX4_search 44 = .ok (.aload_n 0, 1) := zk_of (zk_r (zk_r (zk_r (zk_l (zk_l zdX4_search_103)))))
theorem dX4_search_45 : decode cX4_search 45 = .ok (.getfield 18, 3) := zk_of (zk_l (zk_l (zk_l (zk_r (zk_l zdX4_search_103)))))
theorem dX4_search_48 : decode cX4_search 48 = .ok (.iload 4, 2) := zk_of (zk_r (zk_l (zk_l (zk_r (zk_l zdX4_search_103)))))
theorem dX4_search_50 : decode cX4_search 50 = .ok (.iload_n 3, 1) := zk_of (zk_l (zk_r (zk_l (zk_r (zk_l zdX4_search_103)))))
theorem dX4_search_51 : decode cX4_search 51 = .ok (.iconst 1, 1) := zk_of (zk_r (zk_r (zk_l (zk_r (zk_l zdX4_search_103)))))
theorem dX4_search_52 : decode cX4_search 52 = .ok (.isub, 1) := zk_of (zk_l (zk_l (zk_r (zk_r (zk_l zdX4_search_103)))))
theorem dX4_search_53 : decode cX4_search 53 = .ok (.invokevirtual 32, 3) := zk_of (zk_r (zk_l (zk_r (zk_r (zk_l zdX4_search_103)))))
theorem dX4_search_56 : decode cX4_search 56 = .ok (.aload_n 0, 1) := zk_of (zk_l (zk_r (zk_r (zk_r (zk_l zdX4_search_103)))))
theorem dX4_search_57 : decode cX4_search 57 = .ok (.getfield 18, 3) := zk_of (zk_r (zk_r (zk_r (zk_r (zk_l zdX4_search_103)))))
theorem dX4_search_60 : decode cX4_search 60 = .ok (.getfield 52, 3) := zk_of (zk_l (zk_l (zk_l (zk_l (zk_r zdX4_search_103)))))
theorem dX4_search_63 : decode cX4_search 63 = .ok (.land, 1) := zk_of (zk_r (zk_l (zk_l (zk_l (zk_r zdX4_search_103)))))
theorem dX4_search_64 : decode cX4_search 64 = .ok (.lstore 5, 2) := zk_of (zk_l (zk_r (zk_l (zk_l (zk_r zdX4_search_103)))))
theorem dX4_search_66 : decode cX4_search 66 = .ok (.lload 5, 2) := zk_of (zk_r (zk_r (zk_l (zk_l (zk_r zdX4_search_103)))))
theorem dX4_search_68 : decode cX4_search 68 = .ok (.aload_n 0, 1) := zk_of (zk_l (zk_l (zk_r (zk_l (zk_r zdX4_search_103)))))
theorem dX4_search_69 : decode cX4_search 69 = .ok (.getfield 18, 3) := zk_of (zk_r (zk_l (zk_r (zk_l (zk_r zdX4_search_103)))))
theorem dX4_search_72 : decode cX4_search 72 = .ok (.iload 4, 2) := zk_of (zk_l (zk_r (zk_r (zk_l (zk_r zdX4_search_103)))))
theorem dX4_search_74 : decode cX4_search 74 = .ok (.iload_n 3, 1) := zk_of (zk_r (zk_r (zk_r (zk_l (zk_r zdX4_search_103)))))
theorem dX4_search_75 : decode cX4_search 75 = .ok (.iconst 2, 1) := zk_of (zk_l (zk_l (zk_l (zk_r (zk_r zdX4_search_103)))))
theorem dX4_search_76 : decode cX4_search 76 = .ok (.isub, 1) := zk_of (zk_r (zk_l (zk_l (zk_r (zk_r zdX4_search_103)))))
theorem dX4_search_77 : decode cX4_search 77 = .ok (.invokevirtual 32, 3) := zk_of (zk_l (zk_r (zk_l (zk_r (zk_r zdX4_search_103)))))
theorem dX4_search_80 : decode cX4_search 80 = .ok (.aload_n 0, 1) := zk_of (zk_r (zk_r (zk_l (zk_r (zk_r zdX4_search_103)))))
theorem dX4_search_81 : decode cX4_search 81 = .ok (.getfield 18, 3) := zk_of (zk_l (zk_l (zk_r (zk_r (zk_r zdX4_search_103)))))
theorem dX4_search_84 : decode cX4_search 84 = .ok (.getfield 52, 3) := zk_of (zk_r (zk_l (zk_r (zk_r (zk_r zdX4_search_103)))))
theorem dX4_search_87 : decode cX4_search 87 = .ok (.land, 1) := zk_of (zk_l (zk_r (zk_r (zk_r (zk_r zdX4_search_103)))))
theorem dX4_search_88 : decode cX4_search 88 = .ok (.lcmp, 1) := zk_of (zk_r (zk_r (zk_r (zk_r (zk_r zdX4_search_103)))))
set_option maxRecDepth 20000 in
theorem ggX4_search_X2_knownBy : GoodIn wsX4_search wsX2_knownBy := ggi (fun w h => List.mem_cons_of_mem _ (List.mem_append_left _ (List.mem_append_left _ (List.mem_append_right _ (List.mem_append_left _ h))))) gs_X2_knownBy
set_option maxRecDepth 20000 in
theorem gX4_search_X2_knownBy : GoodIn wsX4_search (wsV RX4 32 RX2 yX2_knownBy wsX2_knownBy) := goodIn_app (goodIn_of _ (by decide +kernel)) ggX4_search_X2_knownBy
theorem zdX4_search_89 : (and (and (and (and (and (zk cX4_search 89 (.ifCond .eq 14) 3) (zk cX4_search 92 (.aload_n 0) 1)) (and (zk cX4_search 93 (.iload_n 3) 1) (zk cX4_search 94 (.iload 4) 2))) (and (and (zk cX4_search 96 (.lload 5) 2) (zk cX4_search 98 (.iload_n 2) 1)) (and (zk cX4_search 99 (.invokevirtual 56) 3) (zk cX4_search 102 (.istore_n 2) 1)))) (and (and (and (zk cX4_search 109 (.iinc 3 1) 3) (zk cX4_search 112 (.goto (-88)) 3)) (and (zk cX4_search 24 (.iload_n 3) 1) (zk cX4_search 25 (.iload_n 2) 1))) (and (and (zk cX4_search 26 (.if_icmp .ge 89) 3) (zk cX4_search 115 (.return_) 1)) (and (zk cX4_search 29 (.iconst 0) 1) (zk cX4_search 30 (.istore 4) 2))))) (and (and (and (and (zk cX4_search 0 (.aload_n 0) 1) (zk cX4_search 1 (.iconst (-1)) 1)) (and (zk cX4_search 2 (.putfield 40) 3) (zk cX4_search 5 (.aload_n 0) 1))) (and (and (zk cX4_search 6 (.iconst (-1)) 1) (zk cX4_search 7 (.putfield 43) 3)) (and (zk cX4_search 10 (.aload_n 0) 1) (zk cX4_search 11 (.iconst (-1)) 1)))) (and (and (and (zk cX4_search 12 (.putfield 46) 3) (zk cX4_search 15 (.aload_n 0) 1)) (and (zk cX4_search 16 (.iconst (-1)) 1) (zk cX4_search 17 (.putfield 49) 3))) (and (and (zk cX4_search 20 (.iload_n 1) 1) (zk cX4_search 21 (.istore_n 2) 1)) (and (zk cX4_search 22 (.iconst 1) 1) (zk cX4_search 23 (.istore_n 3) 1)))))) = true := by decide +kernel
theorem dX4_search_89 : decode cX4_search 89 = .ok (.ifCond .eq 14, 3) := zk_of (zk_l (zk_l (zk_l (zk_l (zk_l zdX4_search_89)))))
theorem dX4_search_92 : decode cX4_search 92 = .ok (.aload_n 0, 1) := zk_of (zk_r (zk_l (zk_l (zk_l (zk_l zdX4_search_89)))))
theorem dX4_search_93 : decode cX4_search 93 = .ok (.iload_n 3, 1) := zk_of (zk_l (zk_r (zk_l (zk_l (zk_l zdX4_search_89)))))
theorem dX4_search_94 : decode cX4_search 94 = .ok (.iload 4, 2) := zk_of (zk_r (zk_r (zk_l (zk_l (zk_l zdX4_search_89)))))
theorem dX4_search_96 : decode cX4_search 96 = .ok (.lload 5, 2) := zk_of (zk_l (zk_l (zk_r (zk_l (zk_l zdX4_search_89)))))
theorem dX4_search_98 : decode cX4_search 98 = .ok (.iload_n 2, 1) := zk_of (zk_r (zk_l (zk_r (zk_l (zk_l zdX4_search_89)))))
theorem dX4_search_99 : decode cX4_search 99 = .ok (.invokevirtual 56, 3) := zk_of (zk_l (zk_r (zk_r (zk_l (zk_l zdX4_search_89)))))
theorem dX4_search_102 : decode cX4_search 102 = .ok (.istore_n 2, 1) := zk_of (zk_r (zk_r (zk_r (zk_l (zk_l zdX4_search_89)))))
theorem dX4_search_109 : decode cX4_search 109 = .ok (.iinc 3 1, 3) := zk_of (zk_l (zk_l (zk_l (zk_r (zk_l zdX4_search_89)))))
theorem dX4_search_112 : decode cX4_search 112 = .ok (.goto (-88), 3) := zk_of (zk_r (zk_l (zk_l (zk_r (zk_l zdX4_search_89)))))
theorem dX4_search_24 : decode cX4_search 24 = .ok (.iload_n 3, 1) := zk_of (zk_l (zk_r (zk_l (zk_r (zk_l zdX4_search_89)))))
theorem dX4_search_25 : decode cX4_search 25 = .ok (.iload_n 2, 1) := zk_of (zk_r (zk_r (zk_l (zk_r (zk_l zdX4_search_89)))))
theorem dX4_search_26 : decode cX4_search 26 = .ok (.if_icmp .ge 89, 3) := zk_of (zk_l (zk_l (zk_r (zk_r (zk_l zdX4_search_89)))))
theorem dX4_search_115 : decode cX4_search 115 = .ok (.return_, 1) := zk_of (zk_r (zk_l (zk_r (zk_r (zk_l zdX4_search_89)))))
theorem dX4_search_29 : decode cX4_search 29 = .ok (.iconst 0, 1) := zk_of (zk_l (zk_r (zk_r (zk_r (zk_l zdX4_search_89)))))
theorem dX4_search_30 : decode cX4_search 30 = .ok (.istore 4, 2) := zk_of (zk_r (zk_r (zk_r (zk_r (zk_l zdX4_search_89)))))
theorem dX4_search_0 : decode cX4_search 0 = .ok (.aload_n 0, 1) := zk_of (zk_l (zk_l (zk_l (zk_l (zk_r zdX4_search_89)))))
theorem dX4_search_1 : decode cX4_search 1 = .ok (.iconst (-1), 1) := zk_of (zk_r (zk_l (zk_l (zk_l (zk_r zdX4_search_89)))))
theorem dX4_search_2 : decode cX4_search 2 = .ok (.putfield 40, 3) := zk_of (zk_l (zk_r (zk_l (zk_l (zk_r zdX4_search_89)))))
theorem dX4_search_5 : decode cX4_search 5 = .ok (.aload_n 0, 1) := zk_of (zk_r (zk_r (zk_l (zk_l (zk_r zdX4_search_89)))))
theorem dX4_search_6 : decode cX4_search 6 = .ok (.iconst (-1), 1) := zk_of (zk_l (zk_l (zk_r (zk_l (zk_r zdX4_search_89)))))
theorem dX4_search_7 : decode cX4_search 7 = .ok (.putfield 43, 3) := zk_of (zk_r (zk_l (zk_r (zk_l (zk_r zdX4_search_89)))))
theorem dX4_search_10 : decode cX4_search 10 = .ok (.aload_n 0, 1) := zk_of (zk_l (zk_r (zk_r (zk_l (zk_r zdX4_search_89)))))
theorem dX4_search_11 : decode cX4_search 11 = .ok (.iconst (-1), 1) := zk_of (zk_r (zk_r (zk_r (zk_l (zk_r zdX4_search_89)))))
theorem dX4_search_12 : decode cX4_search 12 = .ok (.putfield 46, 3) := zk_of (zk_l (zk_l (zk_l (zk_r (zk_r zdX4_search_89)))))
theorem dX4_search_15 : decode cX4_search 15 = .ok (.aload_n 0, 1) := zk_of (zk_r (zk_l (zk_l (zk_r (zk_r zdX4_search_89)))))
theorem dX4_search_16 : decode cX4_search 16 = .ok (.iconst (-1), 1) := zk_of (zk_l (zk_r (zk_l (zk_r (zk_r zdX4_search_89)))))
theorem dX4_search_17 : decode cX4_search 17 = .ok (.putfield 49, 3) := zk_of (zk_r (zk_r (zk_l (zk_r (zk_r zdX4_search_89)))))
theorem dX4_search_20 : decode cX4_search 20 = .ok (.iload_n 1, 1) := zk_of (zk_l (zk_l (zk_r (zk_r (zk_r zdX4_search_89)))))
theorem dX4_search_21 : decode cX4_search 21 = .ok (.istore_n 2, 1) := zk_of (zk_r (zk_l (zk_r (zk_r (zk_r zdX4_search_89)))))
theorem dX4_search_22 : decode cX4_search 22 = .ok (.iconst 1, 1) := zk_of (zk_l (zk_r (zk_r (zk_r (zk_r zdX4_search_89)))))
theorem dX4_search_23 : decode cX4_search 23 = .ok (.istore_n 3, 1) := zk_of (zk_r (zk_r (zk_r (zk_r (zk_r zdX4_search_89)))))
set_option maxRecDepth 20000 in
theorem ggX4_search_X4_tryAll : GoodIn wsX4_search wsX4_tryAll := ggi (fun w h => List.mem_cons_of_mem _ (List.mem_append_left _ (List.mem_append_left _ (List.mem_append_right _ (List.mem_append_right _ h))))) gs_X4_tryAll
set_option maxRecDepth 20000 in
theorem gX4_search_X4_tryAll : GoodIn wsX4_search (wsV RX4 56 RX4 yX4_tryAll wsX4_tryAll) := goodIn_app (goodIn_of _ (by decide +kernel)) ggX4_search_X4_tryAll
/-- HissHorn$Meeting.search(I)V of cell 12 -/
def rmX4_search_12 : Room := { frames := 5, cells := 0, slots := 0, locals := 119 }
theorem hX4_search_12_X4 : ∀ w ∈ u_ws RX4 TX4 7, w ∈ wsX4_search := fun w h => (List.mem_cons_of_mem _ (List.mem_append_left _ (List.mem_append_right _ h)))
theorem mX4_search_12_1 : Cond.fieldLink RX4 40 "HissHorn$Meeting" "bestFrom" "I" ∈ wsX4_search := (List.mem_cons_of_mem _ (List.mem_append_left _ (List.mem_append_left _ (List.mem_append_left _ (List.mem_of_getElem? (i := 8) rfl)))))
theorem mX4_search_12_2 : Cond.fieldLink RX4 43 "HissHorn$Meeting" "bestTo" "I" ∈ wsX4_search := (List.mem_cons_of_mem _ (List.mem_append_left _ (List.mem_append_left _ (List.mem_append_left _ (List.mem_of_getElem? (i := 9) rfl)))))
theorem mX4_search_12_3 : Cond.fieldLink RX4 46 "HissHorn$Meeting" "bestDay" "I" ∈ wsX4_search := (List.mem_cons_of_mem _ (List.mem_append_left _ (List.mem_append_left _ (List.mem_append_left _ (List.mem_of_getElem? (i := 10) rfl)))))
theorem mX4_search_12_4 : Cond.fieldLink RX4 49 "HissHorn$Meeting" "bestMeeting" "I" ∈ wsX4_search := (List.mem_cons_of_mem _ (List.mem_append_left _ (List.mem_append_left _ (List.mem_append_left _ (List.mem_of_getElem? (i := 11) rfl)))))
theorem mX4_search_12_5 : Cond.fieldLink RX4 18 "HissHorn$Meeting" "houses" "LHissHorn$Houses;" ∈ wsX4_search := (List.mem_cons_of_mem _ (List.mem_append_left _ (List.mem_append_left _ (List.mem_append_left _ (List.mem_of_getElem? (i := 12) rfl)))))
theorem hX4_search_12_X2 : ∀ w ∈ u_ws RX2 TX2 18, w ∈ wsX4_search := fun w h => (List.mem_cons_of_mem _ (List.mem_append_right _ h))
theorem mX4_search_12_7 : Cond.fieldLink RX4 28 "HissHorn$Houses" "size" "I" ∈ wsX4_search := (List.mem_cons_of_mem _ (List.mem_append_left _ (List.mem_append_left _ (List.mem_append_left _ (List.mem_of_getElem? (i := 13) rfl)))))
theorem mX4_search_12_8 : Cond.fieldLink RX4 52 "HissHorn$Houses" "matters" "J" ∈ wsX4_search := (List.mem_cons_of_mem _ (List.mem_append_left _ (List.mem_append_left _ (List.mem_append_left _ (List.mem_of_getElem? (i := 14) rfl)))))
def GX4_search_12_103 (k32 : Int32 → Int32 → Int32 → SX → Option (Int32 × SX)) (z2 : Int32) (z3 : Int32) (z4 : Int32) (u : SX) : Option (Int32 × SX) := (k32 z2 z3 (z4 + 1) u)
def LX4_search_12_32 (k109 : Int32 → Int32 → SX → Option (Int32 × SX)) : Nat → Int32 → Int32 → Int32 → SX → Option (Int32 × SX)
  | 0, _, _, _, _ => none
  | n + 1, z2, z3, z4, u => (if (u.1 35) ≤ z4 then (k109 z2 z3 u) else ((fX2_knownBy_11 z4 (z3 - 1) u).bind fun q => match q with | (r9, u10) => (lt (r9 &&& (u10.2.2.1 0)) fun v12 => ((fX2_knownBy_11 z4 (z3 - 2) u10).bind fun q => match q with | (r14, u15) => (if (lg_cmp v12 (r14 &&& (u15.2.2.1 0))) = 0 then (GX4_search_12_103 (LX4_search_12_32 k109 n) z2 z3 z4 u15) else ((fX4_tryAll_12 z3 z4 v12 z2 u15).bind fun q => match q with | (r17, u18) => (GX4_search_12_103 (LX4_search_12_32 k109 n) r17 z3 z4 u18)))))))
def GX4_search_12_109 (k24 : Int32 → Int32 → SX → Option (Int32 × SX)) (z2 : Int32) (z3 : Int32) (u : SX) : Option (Int32 × SX) := (k24 z2 (z3 + 1) u)
def LX4_search_12_24  : Nat → Int32 → Int32 → SX → Option (Int32 × SX)
  | 0, _, _, _ => none
  | n + 1, z2, z3, u => (if z2 ≤ z3 then (some (0, u)) else (LX4_search_12_32 (GX4_search_12_109 (LX4_search_12_24 n)) 5000 z2 z3 0 u))
def fX4_search_12 (x1 : Int32) (u : SX) : Option (Int32 × SX) := (lt (sI u 40 (-1)) fun u1 => (lt (sI u1 41 (-1)) fun u3 => (lt (sI u3 42 (-1)) fun u5 => (lt (sI u5 43 (-1)) fun u7 => (LX4_search_12_24  5000 x1 1 u7)))))
set_option maxHeartbeats 4000000 in
set_option maxRecDepth 100000 in
theorem wGX4_search_12_103 {p : Program} {l : Launch} {e : Env} {s : State} {m : MethodId} {args : Array Value} {below : List Frame} {meth : Method} {c : Code} {D : va_G} {cy : Nat → ClassId} {ad st : Nat → Nat} (C : Cx RX4 cX4_search 7 none wsX4_search p s m args meth c) (hK : Ky D [(cy 0, .int), (cy 1, .long), (cy 2, .boolean), (cy 3, .byte), (cy 4, .object "HissHorn$Text")] st s) (hJ : JX ad st) {r : Int32} {u' : SX} {k32 : Int32 → Int32 → Int32 → SX → Option (Int32 × SX)} (hk32 : ∀ (z2 : Int32) (z3 : Int32) (z4 : Int32) (u : SX) (H : Heap) (locs : List Loc) (ls : Array Slot), k32 z2 z3 z4 u = some (r, u') → va_P D vwCl (VX cy ad st u) H → va_S (Ax (AX ad) s.heap.size) s.heap H locs → lv_has ls 7 [(0, .ref (ad 12)), (2, .int z2), (3, .int z3), (4, .int z4)] → W p l e rmX4_search_12 s m args below meth c H locs 0 0 (MQ below (Qv D (VX cy ad st) (AX ad) s.heap.size r u') args s 0 0 (Ax (AX ad) s.heap.size)) (F0 m 32 ls [])) (z2 : Int32) (z3 : Int32) (z4 : Int32) (u : SX) (H : Heap) (locs : List Loc) (ls : Array Slot) (h : GX4_search_12_103 k32 z2 z3 z4 u = some (r, u')) (hP : va_P D vwCl (VX cy ad st u) H) (hS : va_S (Ax (AX ad) s.heap.size) s.heap H locs) (hl : lv_has ls 7 [(0, .ref (ad 12)), (2, .int z2), (3, .int z3), (4, .int z4)]) : W p l e rmX4_search_12 s m args below meth c H locs 0 0 (MQ below (Qv D (VX cy ad st) (AX ad) s.heap.size r u') args s 0 0 (Ax (AX ad) s.heap.size)) (F0 m 103 ls []) := by
  unfold GX4_search_12_103 at h
  refine lv_iinc (v := z4 + 1) (lv' := [(4, .int (z4 + 1)), (0, .ref (ad 12)), (2, .int z2), (3, .int z3)]) C.1 C.2.1 dX4_search_103 hl (k := 3) rfl rfl (by decide) rfl (fun ls hl => ?_)
  replace hl := lv_sub (l' := [(0, .ref (ad 12)), (2, .int z2), (3, .int z3), (4, .int (z4 + 1))]) hl [1, 2, 3, 0] rfl
  refine lv_goto (tgt := 32) C.1 C.2.1 dX4_search_106 (by decide) ?_
  exact hk32 _ _ _ _ _ _ _ h hP hS hl
set_option maxHeartbeats 4000000 in
set_option maxRecDepth 100000 in
theorem wLX4_search_12_32 {p : Program} {l : Launch} {e : Env} {s : State} {m : MethodId} {args : Array Value} {below : List Frame} {meth : Method} {c : Code} {D : va_G} {cy : Nat → ClassId} {ad st : Nat → Nat} (C : Cx RX4 cX4_search 7 none wsX4_search p s m args meth c) (hK : Ky D [(cy 0, .int), (cy 1, .long), (cy 2, .boolean), (cy 3, .byte), (cy 4, .object "HissHorn$Text")] st s) (hJ : JX ad st) {r : Int32} {u' : SX} {k109 : Int32 → Int32 → SX → Option (Int32 × SX)} (hk109 : ∀ (z2 : Int32) (z3 : Int32) (u : SX) (H : Heap) (locs : List Loc) (ls : Array Slot), k109 z2 z3 u = some (r, u') → va_P D vwCl (VX cy ad st u) H → va_S (Ax (AX ad) s.heap.size) s.heap H locs → lv_has ls 7 [(0, .ref (ad 12)), (2, .int z2), (3, .int z3)] → W p l e rmX4_search_12 s m args below meth c H locs 0 0 (MQ below (Qv D (VX cy ad st) (AX ad) s.heap.size r u') args s 0 0 (Ax (AX ad) s.heap.size)) (F0 m 109 ls [])) : ∀ (n : Nat) (z2 : Int32) (z3 : Int32) (z4 : Int32) (u : SX) (H : Heap) (locs : List Loc) (ls : Array Slot), LX4_search_12_32 k109 n z2 z3 z4 u = some (r, u') → va_P D vwCl (VX cy ad st u) H → va_S (Ax (AX ad) s.heap.size) s.heap H locs → lv_has ls 7 [(0, .ref (ad 12)), (2, .int z2), (3, .int z3), (4, .int z4)] → W p l e rmX4_search_12 s m args below meth c H locs 0 0 (MQ below (Qv D (VX cy ad st) (AX ad) s.heap.size r u') args s 0 0 (Ax (AX ad) s.heap.size)) (F0 m 32 ls []) := by
  intro n
  induction n with
  | zero =>
    intro z2 z3 z4 u H locs ls h
    exact absurd h (by intro q; cases q)
  | succ n ih =>
    intro z2 z3 z4 u H locs ls h hP hS hl
    rw [LX4_search_12_32] at h
    refine lv_iload C.1 C.2.1 dX4_search_32 (lv_at hl 3 rfl) ?_
    refine lv_aload_n C.1 C.2.1 dX4_search_34 rfl (lv_at hl 0 rfl) ?_
    refine gX_12_houses C hX4_search_12_X4 hK hP mX4_search_12_5 dX4_search_35 ?_
    refine gX_11_size C hX4_search_12_X2 hK hP mX4_search_12_7 dX4_search_38 ?_
    refine lv_icmp_ge (tgt := 109) C.1 C.2.1 dX4_search_41 (by decide) (fun c41 => ?_) (fun c41 => ?_)
    · rw [if_pos c41] at h
      exact hk109 _ _ _ _ _ _ h hP hS (lv_sub hl [0, 1, 2] rfl)
    · rw [if_neg c41] at h
      refine lv_aload_n C.1 C.2.1 dX4_search_44 rfl (lv_at hl 0 rfl) ?_
      refine gX_12_houses C hX4_search_12_X4 hK hP mX4_search_12_5 dX4_search_45 ?_
      refine lv_iload C.1 C.2.1 dX4_search_48 (lv_at hl 3 rfl) ?_
      refine lv_iload_n C.1 C.2.1 dX4_search_50 rfl (lv_at hl 2 rfl) ?_
      refine lv_iconst (v := 1) C.1 C.2.1 dX4_search_51 (by decide) ?_
      refine lv_isub C.1 C.2.1 dX4_search_52 ?_
      obtain ⟨⟨r9, u10⟩, hc11, h⟩ := bd_some h
      try dsimp only at h
      refine cg_l (As := [.int z4, .int (z3 - 1)]) (rest := []) (AX_ge hJ) C hK hP hS (metX2_knownBy_11 l D cy ad st hJ _ z4 (z3 - 1) hc11) (cwV 2 C.2.2.2.2.2.1 gX4_search_X2_knownBy rfl rfl rfl (by decide +kernel) ⟨(Nat.le_of_ble_eq_true rfl), (Nat.le_of_ble_eq_true rfl)⟩) 11 2 rfl rfl rfl hl.1 rfl (Nat.le_of_ble_eq_true rfl) dX4_search_53 ⟨Nat.zero_le _, Nat.zero_le _⟩ (fun H locs hP hS => ?_)
      refine lv_aload_n C.1 C.2.1 dX4_search_56 rfl (lv_at hl 0 rfl) ?_
      refine gX_12_houses C hX4_search_12_X4 hK hP mX4_search_12_5 dX4_search_57 ?_
      refine gX_11_matters C hX4_search_12_X2 hK hP mX4_search_12_8 dX4_search_60 ?_
      refine lv_land C.1 C.2.1 dX4_search_63 ?_
      refine lv_topl (fun v12 hv13 => ?_)
      replace h := lt_e hv13 h
      try dsimp only at h
      refine lv_lstore (lv' := [(5, .long v12), (0, .ref (ad 12)), (2, .int z2), (3, .int z3), (4, .int z4)]) C.1 C.2.1 dX4_search_64 hl (by decide) rfl (fun ls hl => ?_)
      replace hl := lv_sub (l' := [(0, .ref (ad 12)), (2, .int z2), (3, .int z3), (4, .int z4), (5, .long v12)]) hl [1, 2, 3, 4, 0] rfl
      refine lv_lload C.1 C.2.1 dX4_search_66 (lv_at hl 4 rfl) ?_
      refine lv_aload_n C.1 C.2.1 dX4_search_68 rfl (lv_at hl 0 rfl) ?_
      refine gX_12_houses C hX4_search_12_X4 hK hP mX4_search_12_5 dX4_search_69 ?_
      refine lv_iload C.1 C.2.1 dX4_search_72 (lv_at hl 3 rfl) ?_
      refine lv_iload_n C.1 C.2.1 dX4_search_74 rfl (lv_at hl 2 rfl) ?_
      refine lv_iconst (v := 2) C.1 C.2.1 dX4_search_75 (by decide) ?_
      refine lv_isub C.1 C.2.1 dX4_search_76 ?_
      obtain ⟨⟨r14, u15⟩, hc16, h⟩ := bd_some h
      try dsimp only at h
      refine cg_l (As := [.int z4, .int (z3 - 2)]) (rest := [.long v12]) (AX_ge hJ) C hK hP hS (metX2_knownBy_11 l D cy ad st hJ _ z4 (z3 - 2) hc16) (cwV 2 C.2.2.2.2.2.1 gX4_search_X2_knownBy rfl rfl rfl (by decide +kernel) ⟨(Nat.le_of_ble_eq_true rfl), (Nat.le_of_ble_eq_true rfl)⟩) 11 2 rfl rfl rfl hl.1 rfl (Nat.le_of_ble_eq_true rfl) dX4_search_77 ⟨Nat.zero_le _, Nat.zero_le _⟩ (fun H locs hP hS => ?_)
      refine lv_aload_n C.1 C.2.1 dX4_search_80 rfl (lv_at hl 0 rfl) ?_
      refine gX_12_houses C hX4_search_12_X4 hK hP mX4_search_12_5 dX4_search_81 ?_
      refine gX_11_matters C hX4_search_12_X2 hK hP mX4_search_12_8 dX4_search_84 ?_
      refine lv_land C.1 C.2.1 dX4_search_87 ?_
      refine W.lcmp C.1 C.2.1 dX4_search_88 ?_
      refine lv_if_eq (tgt := 103) C.1 C.2.1 dX4_search_89 (by decide) (fun c89 => ?_) (fun c89 => ?_)
      · rw [if_pos c89] at h
        exact wGX4_search_12_103 C hK hJ ih _ _ _ _ _ _ _ h hP hS (lv_sub hl [0, 1, 2, 3] rfl)
      · rw [if_neg c89] at h
        refine lv_aload_n C.1 C.2.1 dX4_search_92 rfl (lv_at hl 0 rfl) ?_
        refine lv_iload_n C.1 C.2.1 dX4_search_93 rfl (lv_at hl 2 rfl) ?_
        refine lv_iload C.1 C.2.1 dX4_search_94 (lv_at hl 3 rfl) ?_
        refine lv_lload C.1 C.2.1 dX4_search_96 (lv_at hl 4 rfl) ?_
        refine lv_iload_n C.1 C.2.1 dX4_search_98 rfl (lv_at hl 1 rfl) ?_
        obtain ⟨⟨r17, u18⟩, hc19, h⟩ := bd_some h
        try dsimp only at h
        refine cg_i (As := [.int z3, .int z4, .long v12, .int z2]) (rest := []) (AX_ge hJ) C hK hP hS (metX4_tryAll_12 l D cy ad st hJ _ z3 z4 v12 z2 hc19) (cwV 4 C.2.2.2.2.2.1 gX4_search_X4_tryAll rfl rfl rfl (by decide +kernel) ⟨(Nat.le_of_ble_eq_true rfl), (Nat.le_of_ble_eq_true rfl)⟩) 12 4 rfl rfl rfl hl.1 rfl (Nat.le_of_ble_eq_true rfl) dX4_search_99 ⟨Nat.zero_le _, Nat.zero_le _⟩ (fun H locs hP hS => ?_)
        refine lv_istore_n (lv' := [(2, .int r17), (0, .ref (ad 12)), (3, .int z3), (4, .int z4), (5, .long v12)]) C.1 C.2.1 dX4_search_102 rfl hl (by decide) rfl (fun ls hl => ?_)
        replace hl := lv_sub (l' := [(0, .ref (ad 12)), (2, .int r17), (3, .int z3), (4, .int z4), (5, .long v12)]) hl [1, 0, 2, 3, 4] rfl
        exact wGX4_search_12_103 C hK hJ ih _ _ _ _ _ _ _ h hP hS (lv_sub hl [0, 1, 2, 3] rfl)
set_option maxHeartbeats 4000000 in
set_option maxRecDepth 100000 in
theorem wGX4_search_12_109 {p : Program} {l : Launch} {e : Env} {s : State} {m : MethodId} {args : Array Value} {below : List Frame} {meth : Method} {c : Code} {D : va_G} {cy : Nat → ClassId} {ad st : Nat → Nat} (C : Cx RX4 cX4_search 7 none wsX4_search p s m args meth c) (hK : Ky D [(cy 0, .int), (cy 1, .long), (cy 2, .boolean), (cy 3, .byte), (cy 4, .object "HissHorn$Text")] st s) (hJ : JX ad st) {r : Int32} {u' : SX} {k24 : Int32 → Int32 → SX → Option (Int32 × SX)} (hk24 : ∀ (z2 : Int32) (z3 : Int32) (u : SX) (H : Heap) (locs : List Loc) (ls : Array Slot), k24 z2 z3 u = some (r, u') → va_P D vwCl (VX cy ad st u) H → va_S (Ax (AX ad) s.heap.size) s.heap H locs → lv_has ls 7 [(0, .ref (ad 12)), (2, .int z2), (3, .int z3)] → W p l e rmX4_search_12 s m args below meth c H locs 0 0 (MQ below (Qv D (VX cy ad st) (AX ad) s.heap.size r u') args s 0 0 (Ax (AX ad) s.heap.size)) (F0 m 24 ls [])) (z2 : Int32) (z3 : Int32) (u : SX) (H : Heap) (locs : List Loc) (ls : Array Slot) (h : GX4_search_12_109 k24 z2 z3 u = some (r, u')) (hP : va_P D vwCl (VX cy ad st u) H) (hS : va_S (Ax (AX ad) s.heap.size) s.heap H locs) (hl : lv_has ls 7 [(0, .ref (ad 12)), (2, .int z2), (3, .int z3)]) : W p l e rmX4_search_12 s m args below meth c H locs 0 0 (MQ below (Qv D (VX cy ad st) (AX ad) s.heap.size r u') args s 0 0 (Ax (AX ad) s.heap.size)) (F0 m 109 ls []) := by
  unfold GX4_search_12_109 at h
  refine lv_iinc (v := z3 + 1) (lv' := [(3, .int (z3 + 1)), (0, .ref (ad 12)), (2, .int z2)]) C.1 C.2.1 dX4_search_109 hl (k := 2) rfl rfl (by decide) rfl (fun ls hl => ?_)
  replace hl := lv_sub (l' := [(0, .ref (ad 12)), (2, .int z2), (3, .int (z3 + 1))]) hl [1, 2, 0] rfl
  refine lv_goto (tgt := 24) C.1 C.2.1 dX4_search_112 (by decide) ?_
  exact hk24 _ _ _ _ _ _ h hP hS hl
set_option maxHeartbeats 4000000 in
set_option maxRecDepth 100000 in
theorem wLX4_search_12_24 {p : Program} {l : Launch} {e : Env} {s : State} {m : MethodId} {args : Array Value} {below : List Frame} {meth : Method} {c : Code} {D : va_G} {cy : Nat → ClassId} {ad st : Nat → Nat} (C : Cx RX4 cX4_search 7 none wsX4_search p s m args meth c) (hK : Ky D [(cy 0, .int), (cy 1, .long), (cy 2, .boolean), (cy 3, .byte), (cy 4, .object "HissHorn$Text")] st s) (hJ : JX ad st) {r : Int32} {u' : SX}   : ∀ (n : Nat) (z2 : Int32) (z3 : Int32) (u : SX) (H : Heap) (locs : List Loc) (ls : Array Slot), LX4_search_12_24  n z2 z3 u = some (r, u') → va_P D vwCl (VX cy ad st u) H → va_S (Ax (AX ad) s.heap.size) s.heap H locs → lv_has ls 7 [(0, .ref (ad 12)), (2, .int z2), (3, .int z3)] → W p l e rmX4_search_12 s m args below meth c H locs 0 0 (MQ below (Qv D (VX cy ad st) (AX ad) s.heap.size r u') args s 0 0 (Ax (AX ad) s.heap.size)) (F0 m 24 ls []) := by
  intro n
  induction n with
  | zero =>
    intro z2 z3 u H locs ls h
    exact absurd h (by intro q; cases q)
  | succ n ih =>
    intro z2 z3 u H locs ls h hP hS hl
    rw [LX4_search_12_24] at h
    refine lv_iload_n C.1 C.2.1 dX4_search_24 rfl (lv_at hl 2 rfl) ?_
    refine lv_iload_n C.1 C.2.1 dX4_search_25 rfl (lv_at hl 1 rfl) ?_
    refine lv_icmp_ge (tgt := 115) C.1 C.2.1 dX4_search_26 (by decide) (fun c26 => ?_) (fun c26 => ?_)
    · rw [if_pos c26] at h
      cases h
      exact rt_v C hP hS dX4_search_115
    · rw [if_neg c26] at h
      refine lv_iconst (v := 0) C.1 C.2.1 dX4_search_29 (by decide) ?_
      refine lv_istore (lv' := [(4, .int 0), (0, .ref (ad 12)), (2, .int z2), (3, .int z3)]) C.1 C.2.1 dX4_search_30 hl (by decide) rfl (fun ls hl => ?_)
      replace hl := lv_sub (l' := [(0, .ref (ad 12)), (2, .int z2), (3, .int z3), (4, .int 0)]) hl [1, 2, 3, 0] rfl
      exact wLX4_search_12_32 C hK hJ (wGX4_search_12_109 C hK hJ ih) 5000 _ _ _ _ _ _ _ h hP hS hl
set_option maxHeartbeats 4000000 in
set_option maxRecDepth 100000 in
theorem wX4_search_12 {p : Program} {l : Launch} {e : Env} {s : State} {m : MethodId} {args : Array Value} {below : List Frame} {meth : Method} {c : Code} {D : va_G} {cy : Nat → ClassId} {ad st : Nat → Nat} (C : Cx RX4 cX4_search 7 none wsX4_search p s m args meth c) (hK : Ky D [(cy 0, .int), (cy 1, .long), (cy 2, .boolean), (cy 3, .byte), (cy 4, .object "HissHorn$Text")] st s) (hJ : JX ad st) (x1 : Int32) {u : SX} {r : Int32} {u' : SX} {H : Heap} {locs : List Loc} {ls : Array Slot} (h : fX4_search_12 x1 u = some (r, u')) (hP : va_P D vwCl (VX cy ad st u) H) (hS : va_S (Ax (AX ad) s.heap.size) s.heap H locs) (hl : lv_has ls 7 [(0, .ref (ad 12)), (1, .int x1)]) : W p l e rmX4_search_12 s m args below meth c H locs 0 0 (MQ below (Qv D (VX cy ad st) (AX ad) s.heap.size r u') args s 0 0 (Ax (AX ad) s.heap.size)) (F0 m 0 ls []) := by
  unfold fX4_search_12 at h
  refine lv_aload_n C.1 C.2.1 dX4_search_0 rfl (lv_at hl 0 rfl) ?_
  refine lv_iconst (v := (-1)) C.1 C.2.1 dX4_search_1 (by decide) ?_
  refine pX_12_bestFrom C hX4_search_12_X4 hK hP hJ hS mX4_search_12_1 dX4_search_2 (fun H locs hP hS => ?_)
  obtain ⟨u1, hu2, h⟩ := lt_some h
  rw [← hu2] at hP
  refine lv_aload_n C.1 C.2.1 dX4_search_5 rfl (lv_at hl 0 rfl) ?_
  refine lv_iconst (v := (-1)) C.1 C.2.1 dX4_search_6 (by decide) ?_
  refine pX_12_bestTo C hX4_search_12_X4 hK hP hJ hS mX4_search_12_2 dX4_search_7 (fun H locs hP hS => ?_)
  obtain ⟨u3, hu4, h⟩ := lt_some h
  rw [← hu4] at hP
  refine lv_aload_n C.1 C.2.1 dX4_search_10 rfl (lv_at hl 0 rfl) ?_
  refine lv_iconst (v := (-1)) C.1 C.2.1 dX4_search_11 (by decide) ?_
  refine pX_12_bestDay C hX4_search_12_X4 hK hP hJ hS mX4_search_12_3 dX4_search_12 (fun H locs hP hS => ?_)
  obtain ⟨u5, hu6, h⟩ := lt_some h
  rw [← hu6] at hP
  refine lv_aload_n C.1 C.2.1 dX4_search_15 rfl (lv_at hl 0 rfl) ?_
  refine lv_iconst (v := (-1)) C.1 C.2.1 dX4_search_16 (by decide) ?_
  refine pX_12_bestMeeting C hX4_search_12_X4 hK hP hJ hS mX4_search_12_4 dX4_search_17 (fun H locs hP hS => ?_)
  obtain ⟨u7, hu8, h⟩ := lt_some h
  rw [← hu8] at hP
  refine lv_iload_n C.1 C.2.1 dX4_search_20 rfl (lv_at hl 1 rfl) ?_
  refine lv_istore_n (lv' := [(2, .int x1), (0, .ref (ad 12)), (1, .int x1)]) C.1 C.2.1 dX4_search_21 rfl hl (by decide) rfl (fun ls hl => ?_)
  replace hl := lv_sub (l' := [(0, .ref (ad 12)), (1, .int x1), (2, .int x1)]) hl [1, 2, 0] rfl
  refine lv_iconst (v := 1) C.1 C.2.1 dX4_search_22 (by decide) ?_
  refine lv_istore_n (lv' := [(3, .int 1), (0, .ref (ad 12)), (1, .int x1), (2, .int x1)]) C.1 C.2.1 dX4_search_23 rfl hl (by decide) rfl (fun ls hl => ?_)
  replace hl := lv_sub (l' := [(0, .ref (ad 12)), (1, .int x1), (2, .int x1), (3, .int 1)]) hl [1, 2, 3, 0] rfl
  exact wLX4_search_12_24 C hK hJ  5000 _ _ _ _ _ _ h hP hS (lv_sub hl [0, 2, 3] rfl)
theorem metX4_search_12 (l : Launch) (D : va_G) (cy : Nat → ClassId) (ad st : Nat → Nat) (hJ : JX ad st) (sz : Nat) (x1 : Int32) {u : SX} {r : Int32} {u' : SX} (h : fX4_search_12 x1 u = some (r, u')) : Met l yX4_search wsX4_search rmX4_search_12 (va_Pc [.ref (ad 12), .int x1] (Px D [(cy 0, .int), (cy 1, .long), (cy 2, .boolean), (cy 3, .byte), (cy 4, .object "HissHorn$Text")] st (VX cy ad st) sz u)) (Qv D (VX cy ad st) (AX ad) sz r u') 0 0 (Ax (AX ad) sz) := by
  refine Met.ofW (cc := cX4_search) (maxL := 7) (ret := none) (by decide) rfl ?_
  intro p e s m args below meth c s₁ B hml hv
  obtain ⟨rfl, hsz, hP, hK⟩ := hv
  subst hsz
  have C : Cx RX4 cX4_search 7 none wsX4_search p s m _ meth c := ⟨B.exec, B.bytes, hml, B.returns, findClass_of_methodNamed B.named, atoms_spec (ws := wsX4_search) B.pre, B.notSynchronized⟩
  have hl := lv_entry ([.ref (ad 12), .int x1]) (n := 7) (Nat.le_of_ble_eq_true rfl)
  rw [lg_entry_eq]
  exact wX4_search_12 C hK hJ x1 h hP va_S.rf hl

set_option maxRecDepth 20000 in
theorem ggX11_sooner_X4_search : GoodIn wsX11_sooner wsX4_search := ggi (fun w h => List.mem_cons_of_mem _ (List.mem_append_left _ (List.mem_append_left _ (List.mem_append_left _ (List.mem_append_right _ (List.mem_append_left _ h)))))) gs_X4_search
set_option maxRecDepth 20000 in
theorem gX11_sooner_X4_search : GoodIn wsX11_sooner (wsV RX11 363 RX4 yX4_search wsX4_search) := goodIn_app (goodIn_of _ (by decide +kernel)) ggX11_sooner_X4_search
theorem zdX11_sooner_53 : (and (and (and (and (and (zk cX11_sooner 53 (.invokevirtual 363) 3) (zk cX11_sooner 56 (.iload_n 1) 1)) (and (zk cX11_sooner 57 (.tableswitch 51 0 2 #[27, 35, 43]) 27) (zk cX11_sooner 84 (.aload_n 0) 1))) (and (and (zk cX11_sooner 85 (.getfield 99) 3) (zk cX11_sooner 88 (.getfield 364) 3)) (and (zk cX11_sooner 91 (.ireturn) 1) (zk cX11_sooner 92 (.aload_n 0) 1)))) (and (and (and (zk cX11_sooner 93 (.getfield 99) 3) (zk cX11_sooner 96 (.getfield 367) 3)) (and (zk cX11_sooner 99 (.ireturn) 1) (zk cX11_sooner 100 (.aload_n 0) 1))) (and (and (zk cX11_sooner 101 (.getfield 99) 3) (zk cX11_sooner 104 (.getfield 370) 3)) (and (zk cX11_sooner 107 (.ireturn) 1) (zk cX11_sooner 108 (.aload_n 0) 1))))) (and (and (and (and (zk cX11_sooner 109 (.getfield 99) 3) (zk cX11_sooner 112 (.getfield 373) 3)) (and (zk cX11_sooner 115 (.ireturn) 1) (zk cX11_sooner 0 (.iload_n 1) 1))) (and (and (zk cX11_sooner 1 (.iconst 0) 1) (zk cX11_sooner 2 (.iconst 3) 1)) (and (zk cX11_sooner 3 (.invokestatic 107) 3) (zk cX11_sooner 6 (.ifCond .ne 5) 3)))) (and (and (and (zk cX11_sooner 11 (.aload_n 0) 1) (zk cX11_sooner 12 (.getfield 90) 3)) (and (zk cX11_sooner 15 (.aload_n 0) 1) (zk cX11_sooner 16 (.getfield 103) 3))) (and (and (zk cX11_sooner 19 (.invokevirtual 346) 3) (zk cX11_sooner 22 (.aload_n 0) 1)) (and (zk cX11_sooner 23 (.getfield 99) 3) (zk cX11_sooner 26 (.aload_n 0) 1)))))) = true := by decide +kernel
theorem dX11_sooner_53 : decode cX11_sooner 53 = .ok (.invokevirtual 363, 3) := zk_of (zk_l (zk_l (zk_l (zk_l (zk_l zdX11_sooner_53)))))
theorem dX11_sooner_56 : decode cX11_sooner 56 = .ok (.iload_n 1, 1) := zk_of (zk_r (zk_l (zk_l (zk_l (zk_l zdX11_sooner_53)))))
theorem dX11_sooner_57 : decode cX11_sooner 57 = .ok (.tableswitch 51 0 2 #[27, 35, 43], 27) := zk_of (zk_l (zk_r (zk_l (zk_l (zk_l zdX11_sooner_53)))))
theorem dX11_sooner_84 : decode cX11_sooner 84 = .ok (.aload_n 0, 1) := zk_of (zk_r (zk_r (zk_l (zk_l (zk_l zdX11_sooner_53)))))
theorem dX11_sooner_85 : decode cX11_sooner 85 = .ok (.getfield 99, 3) := zk_of (zk_l (zk_l (zk_r (zk_l (zk_l zdX11_sooner_53)))))
theorem dX11_sooner_88 : decode cX11_sooner 88 = .ok (.getfield 364, 3) := zk_of (zk_r (zk_l (zk_r (zk_l (zk_l zdX11_sooner_53)))))
theorem dX11_sooner_91 : decode cX11_sooner 91 = .ok (.ireturn, 1) := zk_of (zk_l (zk_r (zk_r (zk_l (zk_l zdX11_sooner_53)))))
theorem dX11_sooner_92 : decode cX11_sooner 92 = .ok (.aload_n 0, 1) := zk_of (zk_r (zk_r (zk_r (zk_l (zk_l zdX11_sooner_53)))))
theorem dX11_sooner_93 : decode cX11_sooner 93 = .ok (.getfield 99, 3) := zk_of (zk_l (zk_l (zk_l (zk_r (zk_l zdX11_sooner_53)))))
theorem dX11_sooner_96 : decode cX11_sooner 96 = .ok (.getfield 367, 3) := zk_of (zk_r (zk_l (zk_l (zk_r (zk_l zdX11_sooner_53)))))
theorem dX11_sooner_99 : decode cX11_sooner 99 = .ok (.ireturn, 1) := zk_of (zk_l (zk_r (zk_l (zk_r (zk_l zdX11_sooner_53)))))
theorem dX11_sooner_100 : decode cX11_sooner 100 = .ok (.aload_n 0, 1) := zk_of (zk_r (zk_r (zk_l (zk_r (zk_l zdX11_sooner_53)))))
theorem dX11_sooner_101 : decode cX11_sooner 101 = .ok (.getfield 99, 3) := zk_of (zk_l (zk_l (zk_r (zk_r (zk_l zdX11_sooner_53)))))
theorem dX11_sooner_104 : decode cX11_sooner 104 = .ok (.getfield 370, 3) := zk_of (zk_r (zk_l (zk_r (zk_r (zk_l zdX11_sooner_53)))))
theorem dX11_sooner_107 : decode cX11_sooner 107 = .ok (.ireturn, 1) := zk_of (zk_l (zk_r (zk_r (zk_r (zk_l zdX11_sooner_53)))))
theorem dX11_sooner_108 : decode cX11_sooner 108 = .ok (.aload_n 0, 1) := zk_of (zk_r (zk_r (zk_r (zk_r (zk_l zdX11_sooner_53)))))
theorem dX11_sooner_109 : decode cX11_sooner 109 = .ok (.getfield 99, 3) := zk_of (zk_l (zk_l (zk_l (zk_l (zk_r zdX11_sooner_53)))))
theorem dX11_sooner_112 : decode cX11_sooner 112 = .ok (.getfield 373, 3) := zk_of (zk_r (zk_l (zk_l (zk_l (zk_r zdX11_sooner_53)))))
theorem dX11_sooner_115 : decode cX11_sooner 115 = .ok (.ireturn, 1) := zk_of (zk_l (zk_r (zk_l (zk_l (zk_r zdX11_sooner_53)))))
theorem dX11_sooner_0 : decode cX11_sooner 0 = .ok (.iload_n 1, 1) := zk_of (zk_r (zk_r (zk_l (zk_l (zk_r zdX11_sooner_53)))))
theorem dX11_sooner_1 : decode cX11_sooner 1 = .ok (.iconst 0, 1) := zk_of (zk_l (zk_l (zk_r (zk_l (zk_r zdX11_sooner_53)))))
theorem dX11_sooner_2 : decode cX11_sooner 2 = .ok (.iconst 3, 1) := zk_of (zk_r (zk_l (zk_r (zk_l (zk_r zdX11_sooner_53)))))
theorem dX11_sooner_3 : decode cX11_sooner 3 = .ok (.invokestatic 107, 3) := zk_of (zk_l (zk_r (zk_r (zk_l (zk_r zdX11_sooner_53)))))
theorem dX11_sooner_6 : decode cX11_sooner 6 = .ok (.ifCond .ne 5, 3) := zk_of (zk_r (zk_r (zk_r (zk_l (zk_r zdX11_sooner_53)))))
theorem dX11_sooner_11 : decode cX11_sooner 11 = .ok (.aload_n 0, 1) := zk_of (zk_l (zk_l (zk_l (zk_r (zk_r zdX11_sooner_53)))))
theorem dX11_sooner_12 : decode cX11_sooner 12 = .ok (.getfield 90, 3) := zk_of (zk_r (zk_l (zk_l (zk_r (zk_r zdX11_sooner_53)))))
theorem dX11_sooner_15 : decode cX11_sooner 15 = .ok (.aload_n 0, 1) := zk_of (zk_l (zk_r (zk_l (zk_r (zk_r zdX11_sooner_53)))))
theorem dX11_sooner_16 : decode cX11_sooner 16 = .ok (.getfield 103, 3) := zk_of (zk_r (zk_r (zk_l (zk_r (zk_r zdX11_sooner_53)))))
theorem dX11_sooner_19 : decode cX11_sooner 19 = .ok (.invokevirtual 346, 3) := zk_of (zk_l (zk_l (zk_r (zk_r (zk_r zdX11_sooner_53)))))
theorem dX11_sooner_22 : decode cX11_sooner 22 = .ok (.aload_n 0, 1) := zk_of (zk_r (zk_l (zk_r (zk_r (zk_r zdX11_sooner_53)))))
theorem dX11_sooner_23 : decode cX11_sooner 23 = .ok (.getfield 99, 3) := zk_of (zk_l (zk_r (zk_r (zk_r (zk_r zdX11_sooner_53)))))
theorem dX11_sooner_26 : decode cX11_sooner 26 = .ok (.aload_n 0, 1) := zk_of (zk_r (zk_r (zk_r (zk_r (zk_r zdX11_sooner_53)))))
set_option maxRecDepth 20000 in
theorem ggX11_sooner_X11_within : GoodIn wsX11_sooner wsX11_within := ggi (fun w h => List.mem_cons_of_mem _ (List.mem_append_left _ (List.mem_append_left _ (List.mem_append_left _ (List.mem_append_right _ (List.mem_append_right _ (List.mem_append_left _ h))))))) gs_X11_within
set_option maxRecDepth 20000 in
theorem gX11_sooner_X11_within : GoodIn wsX11_sooner (va_wsS RX11 107 yX11_within wsX11_within) := goodIn_app (goodIn_of _ (by decide +kernel)) ggX11_sooner_X11_within
set_option maxRecDepth 20000 in
theorem ggX11_sooner_X2_settle : GoodIn wsX11_sooner wsX2_settle := ggi (fun w h => List.mem_cons_of_mem _ (List.mem_append_left _ (List.mem_append_left _ (List.mem_append_left _ (List.mem_append_right _ (List.mem_append_right _ (List.mem_append_right _ (List.mem_append_left _ h)))))))) gs_X2_settle
set_option maxRecDepth 20000 in
theorem gX11_sooner_X2_settle : GoodIn wsX11_sooner (wsV RX11 346 RX2 yX2_settle wsX2_settle) := goodIn_app (goodIn_of _ (by decide +kernel)) ggX11_sooner_X2_settle
theorem zdX11_sooner_27 : (and (and (and (and (zk cX11_sooner 27 (.getfield 103) 3) (zk cX11_sooner 30 (.invokevirtual 360) 3)) (and (zk cX11_sooner 33 (.istore_n 2) 1) (zk cX11_sooner 34 (.aload_n 0) 1))) (and (and (zk cX11_sooner 35 (.getfield 99) 3) (zk cX11_sooner 38 (.iload_n 2) 1)) (and (zk cX11_sooner 39 (.iconst (-1)) 1) (zk cX11_sooner 40 (.if_icmp .ne 12) 3)))) (and (and (and (zk cX11_sooner 52 (.iload_n 2) 1) (zk cX11_sooner 43 (.aload_n 0) 1)) (and (zk cX11_sooner 44 (.getfield 103) 3) (zk cX11_sooner 47 (.iconst 1) 1))) (and (and (zk cX11_sooner 48 (.iadd) 1) (zk cX11_sooner 49 (.goto 4) 3)) (and (zk cX11_sooner 9 (.iconst (-1)) 1) (zk cX11_sooner 10 (.ireturn) 1))))) = true := by decide +kernel
theorem dX11_sooner_27 : decode cX11_sooner 27 = .ok (.getfield 103, 3) := zk_of (zk_l (zk_l (zk_l (zk_l zdX11_sooner_27))))
theorem dX11_sooner_30 : decode cX11_sooner 30 = .ok (.invokevirtual 360, 3) := zk_of (zk_r (zk_l (zk_l (zk_l zdX11_sooner_27))))
theorem dX11_sooner_33 : decode cX11_sooner 33 = .ok (.istore_n 2, 1) := zk_of (zk_l (zk_r (zk_l (zk_l zdX11_sooner_27))))
theorem dX11_sooner_34 : decode cX11_sooner 34 = .ok (.aload_n 0, 1) := zk_of (zk_r (zk_r (zk_l (zk_l zdX11_sooner_27))))
theorem dX11_sooner_35 : decode cX11_sooner 35 = .ok (.getfield 99, 3) := zk_of (zk_l (zk_l (zk_r (zk_l zdX11_sooner_27))))
theorem dX11_sooner_38 : decode cX11_sooner 38 = .ok (.iload_n 2, 1) := zk_of (zk_r (zk_l (zk_r (zk_l zdX11_sooner_27))))
theorem dX11_sooner_39 : decode cX11_sooner 39 = .ok (.iconst (-1), 1) := zk_of (zk_l (zk_r (zk_r (zk_l zdX11_sooner_27))))
theorem dX11_sooner_40 : decode cX11_sooner 40 = .ok (.if_icmp .ne 12, 3) := zk_of (zk_r (zk_r (zk_r (zk_l zdX11_sooner_27))))
theorem dX11_sooner_52 : decode cX11_sooner 52 = .ok (.iload_n 2, 1) := zk_of (zk_l (zk_l (zk_l (zk_r zdX11_sooner_27))))
theorem dX11_sooner_43 : decode cX11_sooner 43 = .ok (.aload_n 0, 1) := zk_of (zk_r (zk_l (zk_l (zk_r zdX11_sooner_27))))
theorem dX11_sooner_44 : decode cX11_sooner 44 = .ok (.getfield 103, 3) := zk_of (zk_l (zk_r (zk_l (zk_r zdX11_sooner_27))))
theorem dX11_sooner_47 : decode cX11_sooner 47 = .ok (.iconst 1, 1) := zk_of (zk_r (zk_r (zk_l (zk_r zdX11_sooner_27))))
theorem dX11_sooner_48 : decode cX11_sooner 48 = .ok (.iadd, 1) := zk_of (zk_l (zk_l (zk_r (zk_r zdX11_sooner_27))))
theorem dX11_sooner_49 : decode cX11_sooner 49 = .ok (.goto 4, 3) := zk_of (zk_r (zk_l (zk_r (zk_r zdX11_sooner_27))))
theorem dX11_sooner_9 : decode cX11_sooner 9 = .ok (.iconst (-1), 1) := zk_of (zk_l (zk_r (zk_r (zk_r zdX11_sooner_27))))
theorem dX11_sooner_10 : decode cX11_sooner 10 = .ok (.ireturn, 1) := zk_of (zk_r (zk_r (zk_r (zk_r zdX11_sooner_27))))
set_option maxRecDepth 20000 in
theorem ggX11_sooner_X4_firstDay : GoodIn wsX11_sooner wsX4_firstDay := ggi (fun w h => List.mem_cons_of_mem _ (List.mem_append_left _ (List.mem_append_left _ (List.mem_append_left _ (List.mem_append_right _ (List.mem_append_right _ (List.mem_append_right _ (List.mem_append_right _ h)))))))) gs_X4_firstDay
set_option maxRecDepth 20000 in
theorem gX11_sooner_X4_firstDay : GoodIn wsX11_sooner (wsV RX11 360 RX4 yX4_firstDay wsX4_firstDay) := goodIn_app (goodIn_of _ (by decide +kernel)) ggX11_sooner_X4_firstDay
/-- HissHorn.sooner(I)I of cell 0 -/
def rmX11_sooner_0 : Room := { frames := 6, cells := 0, slots := 0, locals := 145 }
theorem hX11_sooner_0_X11 : ∀ w ∈ u_ws RX11 TX11 13, w ∈ wsX11_sooner := fun w h => (List.mem_cons_of_mem _ (List.mem_append_left _ (List.mem_append_left _ (List.mem_append_right _ h))))
theorem mX11_sooner_0_1 : Cond.fieldLink RX11 90 "HissHorn" "houses" "LHissHorn$Houses;" ∈ wsX11_sooner := (List.mem_cons_of_mem _ (List.mem_append_left _ (List.mem_append_left _ (List.mem_append_left _ (List.mem_append_left _ (List.mem_of_getElem? (i := 14) rfl))))))
theorem mX11_sooner_0_2 : Cond.fieldLink RX11 103 "HissHorn" "now" "I" ∈ wsX11_sooner := (List.mem_cons_of_mem _ (List.mem_append_left _ (List.mem_append_left _ (List.mem_append_left _ (List.mem_append_left _ (List.mem_of_getElem? (i := 15) rfl))))))
theorem mX11_sooner_0_3 : Cond.fieldLink RX11 99 "HissHorn" "meeting" "LHissHorn$Meeting;" ∈ wsX11_sooner := (List.mem_cons_of_mem _ (List.mem_append_left _ (List.mem_append_left _ (List.mem_append_left _ (List.mem_append_left _ (List.mem_of_getElem? (i := 16) rfl))))))
theorem hX11_sooner_0_X4 : ∀ w ∈ u_ws RX4 TX4 7, w ∈ wsX11_sooner := fun w h => (List.mem_cons_of_mem _ (List.mem_append_left _ (List.mem_append_right _ h)))
theorem mX11_sooner_0_5 : Cond.fieldLink RX11 364 "HissHorn$Meeting" "bestFrom" "I" ∈ wsX11_sooner := (List.mem_cons_of_mem _ (List.mem_append_left _ (List.mem_append_left _ (List.mem_append_left _ (List.mem_append_left _ (List.mem_of_getElem? (i := 17) rfl))))))
theorem mX11_sooner_0_6 : Cond.fieldLink RX11 367 "HissHorn$Meeting" "bestTo" "I" ∈ wsX11_sooner := (List.mem_cons_of_mem _ (List.mem_append_left _ (List.mem_append_left _ (List.mem_append_left _ (List.mem_append_left _ (List.mem_of_getElem? (i := 18) rfl))))))
theorem mX11_sooner_0_7 : Cond.fieldLink RX11 370 "HissHorn$Meeting" "bestDay" "I" ∈ wsX11_sooner := (List.mem_cons_of_mem _ (List.mem_append_left _ (List.mem_append_left _ (List.mem_append_left _ (List.mem_append_left _ (List.mem_of_getElem? (i := 19) rfl))))))
theorem mX11_sooner_0_8 : Cond.fieldLink RX11 373 "HissHorn$Meeting" "bestMeeting" "I" ∈ wsX11_sooner := (List.mem_cons_of_mem _ (List.mem_append_left _ (List.mem_append_left _ (List.mem_append_left _ (List.mem_append_left _ (List.mem_of_getElem? (i := 20) rfl))))))
def GX11_sooner_0_53 (z1 : Int32) (y0 : Int32) (u : SX) : Option (Int32 × SX) := ((fX4_search_12 y0 u).bind fun q => match q with | (r10, u11) => (if z1 = 0 then (some (u11.1 40, u11)) else (if z1 = 1 then (some (u11.1 41, u11)) else (if z1 = 2 then (some (u11.1 42, u11)) else (some (u11.1 43, u11))))))
def fX11_sooner_0 (x1 : Int32) (u : SX) : Option (Int32 × SX) := ((fX11_within x1 0 3).bind fun r1 => (if r1 = 0 then (some ((-1), u)) else ((fX2_settle_11 (u.1 0) u).bind fun q => match q with | (r4, u5) => ((fX4_firstDay_12 (u5.1 0) u5).bind fun q => match q with | (r7, u8) => (if r7 = (-1) then (GX11_sooner_0_53 x1 ((u8.1 0) + 1) u8) else (GX11_sooner_0_53 x1 r7 u8))))))
set_option maxHeartbeats 4000000 in
set_option maxRecDepth 100000 in
theorem wGX11_sooner_0_53 {p : Program} {l : Launch} {e : Env} {s : State} {m : MethodId} {args : Array Value} {below : List Frame} {meth : Method} {c : Code} {D : va_G} {cy : Nat → ClassId} {ad st : Nat → Nat} (C : Cx RX11 cX11_sooner 3 (some .int) wsX11_sooner p s m args meth c) (hK : Ky D [(cy 0, .int), (cy 1, .long), (cy 2, .boolean), (cy 3, .byte), (cy 4, .object "HissHorn$Text")] st s) (hJ : JX ad st) {r : Int32} {u' : SX}   (z1 : Int32) (y0 : Int32) (u : SX) (H : Heap) (locs : List Loc) (ls : Array Slot) (h : GX11_sooner_0_53 z1 y0 u = some (r, u')) (hP : va_P D vwCl (VX cy ad st u) H) (hS : va_S (Ax (AX ad) s.heap.size) s.heap H locs) (hl : lv_has ls 3 [(0, .ref (ad 0)), (1, .int z1)]) : W p l e rmX11_sooner_0 s m args below meth c H locs 0 0 (MQ below (Qi D (VX cy ad st) (AX ad) s.heap.size r u') args s 0 0 (Ax (AX ad) s.heap.size)) (F0 m 53 ls [.int y0, .ref (ad 12)]) := by
  unfold GX11_sooner_0_53 at h
  obtain ⟨⟨r10, u11⟩, hc12, h⟩ := bd_some h
  try dsimp only at h
  refine cg_v (As := [.int y0]) (rest := []) (AX_ge hJ) C hK hP hS (metX4_search_12 l D cy ad st hJ _ y0 hc12) (cwV 1 C.2.2.2.2.2.1 gX11_sooner_X4_search rfl rfl rfl (by decide +kernel) ⟨(Nat.le_of_ble_eq_true rfl), (Nat.le_of_ble_eq_true rfl)⟩) 12 4 rfl rfl rfl hl.1 rfl (Nat.le_of_ble_eq_true rfl) dX11_sooner_53 ⟨Nat.zero_le _, Nat.zero_le _⟩ (fun H locs hP hS => ?_)
  refine lv_iload_n C.1 C.2.1 dX11_sooner_56 rfl (lv_at hl 1 rfl) ?_
  by_cases c57_0 : z1 = 0
  · rw [if_pos c57_0] at h
    rw [c57_0]
    refine lv_tableIn (off := 27) (tgt := 84) C.1 C.2.1 dX11_sooner_57 (by decide) (by decide) (by decide) (by decide) ?_
    refine lv_aload_n C.1 C.2.1 dX11_sooner_84 rfl (lv_at hl 0 rfl) ?_
    refine gX_0_meeting C hX11_sooner_0_X11 hK hP mX11_sooner_0_3 dX11_sooner_85 ?_
    refine gX_12_bestFrom C hX11_sooner_0_X4 hK hP mX11_sooner_0_5 dX11_sooner_88 ?_
    cases h
    exact rt_i C hP hS dX11_sooner_91
  · rw [if_neg c57_0] at h
    by_cases c57_1 : z1 = 1
    · rw [if_pos c57_1] at h
      rw [c57_1]
      refine lv_tableIn (off := 35) (tgt := 92) C.1 C.2.1 dX11_sooner_57 (by decide) (by decide) (by decide) (by decide) ?_
      refine lv_aload_n C.1 C.2.1 dX11_sooner_92 rfl (lv_at hl 0 rfl) ?_
      refine gX_0_meeting C hX11_sooner_0_X11 hK hP mX11_sooner_0_3 dX11_sooner_93 ?_
      refine gX_12_bestTo C hX11_sooner_0_X4 hK hP mX11_sooner_0_6 dX11_sooner_96 ?_
      cases h
      exact rt_i C hP hS dX11_sooner_99
    · rw [if_neg c57_1] at h
      by_cases c57_2 : z1 = 2
      · rw [if_pos c57_2] at h
        rw [c57_2]
        refine lv_tableIn (off := 43) (tgt := 100) C.1 C.2.1 dX11_sooner_57 (by decide) (by decide) (by decide) (by decide) ?_
        refine lv_aload_n C.1 C.2.1 dX11_sooner_100 rfl (lv_at hl 0 rfl) ?_
        refine gX_0_meeting C hX11_sooner_0_X11 hK hP mX11_sooner_0_3 dX11_sooner_101 ?_
        refine gX_12_bestDay C hX11_sooner_0_X4 hK hP mX11_sooner_0_7 dX11_sooner_104 ?_
        cases h
        exact rt_i C hP hS dX11_sooner_107
      · rw [if_neg c57_2] at h
        have e57_0 := lv_neT c57_0 (show (0 : Int32).toInt = 0 from by decide)
        have e57_1 := lv_neT c57_1 (show (1 : Int32).toInt = 1 from by decide)
        have e57_2 := lv_neT c57_2 (show (2 : Int32).toInt = 2 from by decide)
        refine lv_tableOut (tgt := 108) C.1 C.2.1 dX11_sooner_57 (by omega) (by decide) ?_
        refine lv_aload_n C.1 C.2.1 dX11_sooner_108 rfl (lv_at hl 0 rfl) ?_
        refine gX_0_meeting C hX11_sooner_0_X11 hK hP mX11_sooner_0_3 dX11_sooner_109 ?_
        refine gX_12_bestMeeting C hX11_sooner_0_X4 hK hP mX11_sooner_0_8 dX11_sooner_112 ?_
        cases h
        exact rt_i C hP hS dX11_sooner_115
set_option maxHeartbeats 4000000 in
set_option maxRecDepth 100000 in
theorem wX11_sooner_0 {p : Program} {l : Launch} {e : Env} {s : State} {m : MethodId} {args : Array Value} {below : List Frame} {meth : Method} {c : Code} {D : va_G} {cy : Nat → ClassId} {ad st : Nat → Nat} (C : Cx RX11 cX11_sooner 3 (some .int) wsX11_sooner p s m args meth c) (hK : Ky D [(cy 0, .int), (cy 1, .long), (cy 2, .boolean), (cy 3, .byte), (cy 4, .object "HissHorn$Text")] st s) (hJ : JX ad st) (x1 : Int32) {u : SX} {r : Int32} {u' : SX} {H : Heap} {locs : List Loc} {ls : Array Slot} (h : fX11_sooner_0 x1 u = some (r, u')) (hP : va_P D vwCl (VX cy ad st u) H) (hS : va_S (Ax (AX ad) s.heap.size) s.heap H locs) (hl : lv_has ls 3 [(0, .ref (ad 0)), (1, .int x1)]) : W p l e rmX11_sooner_0 s m args below meth c H locs 0 0 (MQ below (Qi D (VX cy ad st) (AX ad) s.heap.size r u') args s 0 0 (Ax (AX ad) s.heap.size)) (F0 m 0 ls []) := by
  unfold fX11_sooner_0 at h
  refine lv_iload_n C.1 C.2.1 dX11_sooner_0 rfl (lv_at hl 1 rfl) ?_
  refine lv_iconst (v := 0) C.1 C.2.1 dX11_sooner_1 (by decide) ?_
  refine lv_iconst (v := 3) C.1 C.2.1 dX11_sooner_2 (by decide) ?_
  obtain ⟨r1, hc3, h⟩ := bd_some h
  refine cs_i (As := [.int x1, .int 0, .int 3]) (rest := []) (AX_ge hJ) C hK hP hS (metX11_within l D cy st _ x1 0 3 hc3) (va_cwS 3 C.2.2.2.2.2.1 gX11_sooner_X11_within rfl rfl rfl (by decide +kernel) ⟨(Nat.le_of_ble_eq_true rfl), (Nat.le_of_ble_eq_true rfl)⟩) rfl hl.1 rfl (Nat.le_of_ble_eq_true rfl) dX11_sooner_3 ⟨Nat.zero_le _, Nat.zero_le _⟩ (fun H locs hP hS => ?_)
  refine lv_if_ne (tgt := 11) C.1 C.2.1 dX11_sooner_6 (by decide) (fun c6 => ?_) (fun c6 => ?_)
  · rw [if_neg c6] at h
    refine lv_aload_n C.1 C.2.1 dX11_sooner_11 rfl (lv_at hl 0 rfl) ?_
    refine gX_0_houses C hX11_sooner_0_X11 hK hP mX11_sooner_0_1 dX11_sooner_12 ?_
    refine lv_aload_n C.1 C.2.1 dX11_sooner_15 rfl (lv_at hl 0 rfl) ?_
    refine gX_0_now C hX11_sooner_0_X11 hK hP mX11_sooner_0_2 dX11_sooner_16 ?_
    obtain ⟨⟨r4, u5⟩, hc6, h⟩ := bd_some h
    try dsimp only at h
    refine cg_v (As := [.int (u.1 0)]) (rest := []) (AX_ge hJ) C hK hP hS (metX2_settle_11 l D cy ad st hJ _ (u.1 0) hc6) (cwV 1 C.2.2.2.2.2.1 gX11_sooner_X2_settle rfl rfl rfl (by decide +kernel) ⟨(Nat.le_of_ble_eq_true rfl), (Nat.le_of_ble_eq_true rfl)⟩) 11 2 rfl rfl rfl hl.1 rfl (Nat.le_of_ble_eq_true rfl) dX11_sooner_19 ⟨Nat.zero_le _, Nat.zero_le _⟩ (fun H locs hP hS => ?_)
    refine lv_aload_n C.1 C.2.1 dX11_sooner_22 rfl (lv_at hl 0 rfl) ?_
    refine gX_0_meeting C hX11_sooner_0_X11 hK hP mX11_sooner_0_3 dX11_sooner_23 ?_
    refine lv_aload_n C.1 C.2.1 dX11_sooner_26 rfl (lv_at hl 0 rfl) ?_
    refine gX_0_now C hX11_sooner_0_X11 hK hP mX11_sooner_0_2 dX11_sooner_27 ?_
    obtain ⟨⟨r7, u8⟩, hc9, h⟩ := bd_some h
    try dsimp only at h
    refine cg_i (As := [.int (u5.1 0)]) (rest := []) (AX_ge hJ) C hK hP hS (metX4_firstDay_12 l D cy ad st hJ _ (u5.1 0) hc9) (cwV 1 C.2.2.2.2.2.1 gX11_sooner_X4_firstDay rfl rfl rfl (by decide +kernel) ⟨(Nat.le_of_ble_eq_true rfl), (Nat.le_of_ble_eq_true rfl)⟩) 12 4 rfl rfl rfl hl.1 rfl (Nat.le_of_ble_eq_true rfl) dX11_sooner_30 ⟨Nat.zero_le _, Nat.zero_le _⟩ (fun H locs hP hS => ?_)
    refine lv_istore_n (lv' := [(2, .int r7), (0, .ref (ad 0)), (1, .int x1)]) C.1 C.2.1 dX11_sooner_33 rfl hl (by decide) rfl (fun ls hl => ?_)
    replace hl := lv_sub (l' := [(0, .ref (ad 0)), (1, .int x1), (2, .int r7)]) hl [1, 2, 0] rfl
    refine lv_aload_n C.1 C.2.1 dX11_sooner_34 rfl (lv_at hl 0 rfl) ?_
    refine gX_0_meeting C hX11_sooner_0_X11 hK hP mX11_sooner_0_3 dX11_sooner_35 ?_
    refine lv_iload_n C.1 C.2.1 dX11_sooner_38 rfl (lv_at hl 2 rfl) ?_
    refine lv_iconst (v := (-1)) C.1 C.2.1 dX11_sooner_39 (by decide) ?_
    refine lv_icmp_ne (tgt := 52) C.1 C.2.1 dX11_sooner_40 (by decide) (fun c40 => ?_) (fun c40 => ?_)
    · rw [if_neg c40] at h
      refine lv_iload_n C.1 C.2.1 dX11_sooner_52 rfl (lv_at hl 2 rfl) ?_
      exact wGX11_sooner_0_53 C hK hJ _ _ _ _ _ _ h hP hS (lv_sub hl [0, 1] rfl)
    · rw [if_pos c40] at h
      refine lv_aload_n C.1 C.2.1 dX11_sooner_43 rfl (lv_at hl 0 rfl) ?_
      refine gX_0_now C hX11_sooner_0_X11 hK hP mX11_sooner_0_2 dX11_sooner_44 ?_
      refine lv_iconst (v := 1) C.1 C.2.1 dX11_sooner_47 (by decide) ?_
      refine lv_iadd C.1 C.2.1 dX11_sooner_48 ?_
      refine lv_goto (tgt := 53) C.1 C.2.1 dX11_sooner_49 (by decide) ?_
      exact wGX11_sooner_0_53 C hK hJ _ _ _ _ _ _ h hP hS (lv_sub hl [0, 1] rfl)
  · rw [if_pos c6] at h
    refine lv_iconst (v := (-1)) C.1 C.2.1 dX11_sooner_9 (by decide) ?_
    cases h
    exact rt_i C hP hS dX11_sooner_10
theorem metX11_sooner_0 (l : Launch) (D : va_G) (cy : Nat → ClassId) (ad st : Nat → Nat) (hJ : JX ad st) (sz : Nat) (x1 : Int32) {u : SX} {r : Int32} {u' : SX} (h : fX11_sooner_0 x1 u = some (r, u')) : Met l yX11_sooner wsX11_sooner rmX11_sooner_0 (va_Pc [.ref (ad 0), .int x1] (Px D [(cy 0, .int), (cy 1, .long), (cy 2, .boolean), (cy 3, .byte), (cy 4, .object "HissHorn$Text")] st (VX cy ad st) sz u)) (Qi D (VX cy ad st) (AX ad) sz r u') 0 0 (Ax (AX ad) sz) := by
  refine Met.ofW (cc := cX11_sooner) (maxL := 3) (ret := (some .int)) (by decide) rfl ?_
  intro p e s m args below meth c s₁ B hml hv
  obtain ⟨rfl, hsz, hP, hK⟩ := hv
  subst hsz
  have C : Cx RX11 cX11_sooner 3 (some .int) wsX11_sooner p s m _ meth c := ⟨B.exec, B.bytes, hml, B.returns, findClass_of_methodNamed B.named, atoms_spec (ws := wsX11_sooner) B.pre, B.notSynchronized⟩
  have hl := lv_entry ([.ref (ad 0), .int x1]) (n := 3) (Nat.le_of_ble_eq_true rfl)
  rw [lg_entry_eq]
  exact wX11_sooner_0 C hK hJ x1 h hP va_S.rf hl

theorem zdX1_oneSide_79 : (and (and (and (and (and (zk cX1_oneSide 79 (.iinc 3 1) 3) (zk cX1_oneSide 82 (.goto (-74)) 3)) (and (zk cX1_oneSide 8 (.iload_n 3) 1) (zk cX1_oneSide 9 (.iload_n 2) 1))) (and (and (zk cX1_oneSide 10 (.if_icmp .ge 75) 3) (zk cX1_oneSide 85 (.iload_n 1) 1)) (and (zk cX1_oneSide 86 (.ireturn) 1) (zk cX1_oneSide 13 (.aload_n 0) 1)))) (and (and (and (zk cX1_oneSide 14 (.getfield 15) 3) (zk cX1_oneSide 17 (.iload_n 3) 1)) (and (zk cX1_oneSide 18 (.iaload) 1) (zk cX1_oneSide 19 (.ifCond .le 60) 3))) (and (and (zk cX1_oneSide 22 (.aload_n 0) 1) (zk cX1_oneSide 23 (.getfield 15) 3)) (and (zk cX1_oneSide 26 (.iload_n 3) 1) (zk cX1_oneSide 27 (.iload_n 2) 1))))) (and (and (and (and (zk cX1_oneSide 28 (.iadd) 1) (zk cX1_oneSide 29 (.iaload) 1)) (and (zk cX1_oneSide 30 (.ifCond .le 49) 3) (zk cX1_oneSide 33 (.aload_n 0) 1))) (and (and (zk cX1_oneSide 34 (.getfield 11) 3) (zk cX1_oneSide 37 (.iload_n 3) 1)) (and (zk cX1_oneSide 38 (.laload) 1) (zk cX1_oneSide 39 (.aload_n 0) 1)))) (and (and (and (zk cX1_oneSide 40 (.getfield 15) 3) (zk cX1_oneSide 43 (.iload_n 3) 1)) (and (zk cX1_oneSide 44 (.iaload) 1) (zk cX1_oneSide 45 (.i2l) 1))) (and (and (zk cX1_oneSide 46 (.ldiv) 1) (zk cX1_oneSide 47 (.aload_n 0) 1)) (and (zk cX1_oneSide 48 (.getfield 11) 3) (zk cX1_oneSide 51 (.iload_n 3) 1)))))) = true := by decide +kernel
theorem dX1_oneSide_79 : decode cX1_oneSide 79 = .ok (.iinc 3 1, 3) := zk_of (zk_l (zk_l (zk_l (zk_l (zk_l zdX1_oneSide_79)))))
theorem dX1_oneSide_82 : decode cX1_oneSide 82 = .ok (.goto (-74), 3) := zk_of (zk_r (zk_l (zk_l (zk_l (zk_l zdX1_oneSide_79)))))
theorem dX1_oneSide_8 : decode cX1_oneSide 8 = .ok (.iload_n 3, 1) := zk_of (zk_l (zk_r (zk_l (zk_l (zk_l zdX1_oneSide_79)))))
theorem dX1_oneSide_9 : decode cX1_oneSide 9 = .ok (.iload_n 2, 1) := zk_of (zk_r (zk_r (zk_l (zk_l (zk_l zdX1_oneSide_79)))))
theorem dX1_oneSide_10 : decode cX1_oneSide 10 = .ok (.if_icmp .ge 75, 3) := zk_of (zk_l (zk_l (zk_r (zk_l (zk_l zdX1_oneSide_79)))))
theorem dX1_oneSide_85 : decode cX1_oneSide 85 = .ok (.iload_n 1, 1) := zk_of (zk_r (zk_l (zk_r (zk_l (zk_l zdX1_oneSide_79)))))
theorem dX1_oneSide_86 : decode cX1_oneSide 86 = .ok (.ireturn, 1) := zk_of (zk_l (zk_r (zk_r (zk_l (zk_l zdX1_oneSide_79)))))
theorem dX1_oneSide_13 : decode cX1_oneSide 13 = .ok (.aload_n 0, 1) := zk_of (zk_r (zk_r (zk_r (zk_l (zk_l zdX1_oneSide_79)))))
theorem dX1_oneSide_14 : decode cX1_oneSide 14 = .ok (.getfield 15, 3) := zk_of (zk_l (zk_l (zk_l (zk_r (zk_l zdX1_oneSide_79)))))
theorem dX1_oneSide_17 : decode cX1_oneSide 17 = .ok (.iload_n 3, 1) := zk_of (zk_r (zk_l (zk_l (zk_r (zk_l zdX1_oneSide_79)))))
theorem dX1_oneSide_18 : decode cX1_oneSide 18 = .ok (.iaload, 1) := zk_of (zk_l (zk_r (zk_l (zk_r (zk_l zdX1_oneSide_79)))))
theorem dX1_oneSide_19 : decode cX1_oneSide 19 = .ok (.ifCond .le 60, 3) := zk_of (zk_r (zk_r (zk_l (zk_r (zk_l zdX1_oneSide_79)))))
theorem dX1_oneSide_22 : decode cX1_oneSide 22 = .ok (.aload_n 0, 1) := zk_of (zk_l (zk_l (zk_r (zk_r (zk_l zdX1_oneSide_79)))))
theorem dX1_oneSide_23 : decode cX1_oneSide 23 = .ok (.getfield 15, 3) := zk_of (zk_r (zk_l (zk_r (zk_r (zk_l zdX1_oneSide_79)))))
theorem dX1_oneSide_26 : decode cX1_oneSide 26 = .ok (.iload_n 3, 1) := zk_of (zk_l (zk_r (zk_r (zk_r (zk_l zdX1_oneSide_79)))))
theorem dX1_oneSide_27 : decode cX1_oneSide 27 = .ok (.iload_n 2, 1) := zk_of (zk_r (zk_r (zk_r (zk_r (zk_l zdX1_oneSide_79)))))
theorem dX1_oneSide_28 : decode cX1_oneSide 28 = .ok (.iadd, 1) := zk_of (zk_l (zk_l (zk_l (zk_l (zk_r zdX1_oneSide_79)))))
theorem dX1_oneSide_29 : decode cX1_oneSide 29 = .ok (.iaload, 1) := zk_of (zk_r (zk_l (zk_l (zk_l (zk_r zdX1_oneSide_79)))))
theorem dX1_oneSide_30 : decode cX1_oneSide 30 = .ok (.ifCond .le 49, 3) := zk_of (zk_l (zk_r (zk_l (zk_l (zk_r zdX1_oneSide_79)))))
theorem dX1_oneSide_33 : decode cX1_oneSide 33 = .ok (.aload_n 0, 1) := zk_of (zk_r (zk_r (zk_l (zk_l (zk_r zdX1_oneSide_79)))))
theorem dX1_oneSide_34 : decode cX1_oneSide 34 = .ok (.getfield 11, 3) := zk_of (zk_l (zk_l (zk_r (zk_l (zk_r zdX1_oneSide_79)))))
theorem dX1_oneSide_37 : decode cX1_oneSide 37 = .ok (.iload_n 3, 1) := zk_of (zk_r (zk_l (zk_r (zk_l (zk_r zdX1_oneSide_79)))))
theorem dX1_oneSide_38 : decode cX1_oneSide 38 = .ok (.laload, 1) := zk_of (zk_l (zk_r (zk_r (zk_l (zk_r zdX1_oneSide_79)))))
theorem dX1_oneSide_39 : decode cX1_oneSide 39 = .ok (.aload_n 0, 1) := zk_of (zk_r (zk_r (zk_r (zk_l (zk_r zdX1_oneSide_79)))))
theorem dX1_oneSide_40 : decode cX1_oneSide 40 = .ok (.getfield 15, 3) := zk_of (zk_l (zk_l (zk_l (zk_r (zk_r zdX1_oneSide_79)))))
theorem dX1_oneSide_43 : decode cX1_oneSide 43 = .ok (.iload_n 3, 1) := zk_of (zk_r (zk_l (zk_l (zk_r (zk_r zdX1_oneSide_79)))))
theorem dX1_oneSide_44 : decode cX1_oneSide 44 = .ok (.iaload, 1) := zk_of (zk_l (zk_r (zk_l (zk_r (zk_r zdX1_oneSide_79)))))
theorem dX1_oneSide_45 : decode cX1_oneSide 45 = .ok (.i2l, 1) := zk_of (zk_r (zk_r (zk_l (zk_r (zk_r zdX1_oneSide_79)))))
theorem dX1_oneSide_46 : decode cX1_oneSide 46 = .ok (.ldiv, 1) := zk_of (zk_l (zk_l (zk_r (zk_r (zk_r zdX1_oneSide_79)))))
theorem dX1_oneSide_47 : decode cX1_oneSide 47 = .ok (.aload_n 0, 1) := zk_of (zk_r (zk_l (zk_r (zk_r (zk_r zdX1_oneSide_79)))))
theorem dX1_oneSide_48 : decode cX1_oneSide 48 = .ok (.getfield 11, 3) := zk_of (zk_l (zk_r (zk_r (zk_r (zk_r zdX1_oneSide_79)))))
theorem dX1_oneSide_51 : decode cX1_oneSide 51 = .ok (.iload_n 3, 1) := zk_of (zk_r (zk_r (zk_r (zk_r (zk_r zdX1_oneSide_79)))))
theorem zdX1_oneSide_52 : (and (and (and (and (and (zk cX1_oneSide 52 (.iload_n 2) 1) (zk cX1_oneSide 53 (.iadd) 1)) (and (zk cX1_oneSide 54 (.laload) 1) (zk cX1_oneSide 55 (.aload_n 0) 1))) (and (and (zk cX1_oneSide 56 (.getfield 15) 3) (zk cX1_oneSide 59 (.iload_n 3) 1)) (zk cX1_oneSide 60 (.iload_n 2) 1))) (and (and (and (zk cX1_oneSide 61 (.iadd) 1) (zk cX1_oneSide 62 (.iaload) 1)) (zk cX1_oneSide 63 (.i2l) 1)) (and (and (zk cX1_oneSide 64 (.ldiv) 1) (zk cX1_oneSide 65 (.lsub) 1)) (zk cX1_oneSide 66 (.lstore 4) 2)))) (and (and (and (and (zk cX1_oneSide 68 (.iload_n 1) 1) (zk cX1_oneSide 69 (.lload 4) 2)) (zk cX1_oneSide 71 (.invokestatic 78) 3)) (and (and (zk cX1_oneSide 74 (.l2i) 1) (zk cX1_oneSide 75 (.invokestatic 51) 3)) (zk cX1_oneSide 78 (.istore_n 1) 1))) (and (and (and (zk cX1_oneSide 0 (.ldc 77) 2) (zk cX1_oneSide 2 (.istore_n 1) 1)) (zk cX1_oneSide 3 (.bipush 8) 2)) (and (and (zk cX1_oneSide 5 (.istore_n 2) 1) (zk cX1_oneSide 6 (.iconst 0) 1)) (zk cX1_oneSide 7 (.istore_n 3) 1))))) = true := by decide +kernel
theorem dX1_oneSide_52 : decode cX1_oneSide 52 = .ok (.iload_n 2, 1) := zk_of (zk_l (zk_l (zk_l (zk_l (zk_l zdX1_oneSide_52)))))
theorem dX1_oneSide_53 : decode cX1_oneSide 53 = .ok (.iadd, 1) := zk_of (zk_r (zk_l (zk_l (zk_l (zk_l zdX1_oneSide_52)))))
theorem dX1_oneSide_54 : decode cX1_oneSide 54 = .ok (.laload, 1) := zk_of (zk_l (zk_r (zk_l (zk_l (zk_l zdX1_oneSide_52)))))
theorem dX1_oneSide_55 : decode cX1_oneSide 55 = .ok (.aload_n 0, 1) := zk_of (zk_r (zk_r (zk_l (zk_l (zk_l zdX1_oneSide_52)))))
theorem dX1_oneSide_56 : decode cX1_oneSide 56 = .ok (.getfield 15, 3) := zk_of (zk_l (zk_l (zk_r (zk_l (zk_l zdX1_oneSide_52)))))
theorem dX1_oneSide_59 : decode cX1_oneSide 59 = .ok (.iload_n 3, 1) := zk_of (zk_r (zk_l (zk_r (zk_l (zk_l zdX1_oneSide_52)))))
theorem dX1_oneSide_60 : decode cX1_oneSide 60 = .ok (.iload_n 2, 1) := zk_of (zk_r (zk_r (zk_l (zk_l zdX1_oneSide_52))))
theorem dX1_oneSide_61 : decode cX1_oneSide 61 = .ok (.iadd, 1) := zk_of (zk_l (zk_l (zk_l (zk_r (zk_l zdX1_oneSide_52)))))
theorem dX1_oneSide_62 : decode cX1_oneSide 62 = .ok (.iaload, 1) := zk_of (zk_r (zk_l (zk_l (zk_r (zk_l zdX1_oneSide_52)))))
theorem dX1_oneSide_63 : decode cX1_oneSide 63 = .ok (.i2l, 1) := zk_of (zk_r (zk_l (zk_r (zk_l zdX1_oneSide_52))))
theorem dX1_oneSide_64 : decode cX1_oneSide 64 = .ok (.ldiv, 1) := zk_of (zk_l (zk_l (zk_r (zk_r (zk_l zdX1_oneSide_52)))))
theorem dX1_oneSide_65 : decode cX1_oneSide 65 = .ok (.lsub, 1) := zk_of (zk_r (zk_l (zk_r (zk_r (zk_l zdX1_oneSide_52)))))
theorem dX1_oneSide_66 : decode cX1_oneSide 66 = .ok (.lstore 4, 2) := zk_of (zk_r (zk_r (zk_r (zk_l zdX1_oneSide_52))))
theorem dX1_oneSide_68 : decode cX1_oneSide 68 = .ok (.iload_n 1, 1) := zk_of (zk_l (zk_l (zk_l (zk_l (zk_r zdX1_oneSide_52)))))
theorem dX1_oneSide_69 : decode cX1_oneSide 69 = .ok (.lload 4, 2) := zk_of (zk_r (zk_l (zk_l (zk_l (zk_r zdX1_oneSide_52)))))
theorem dX1_oneSide_71 : decode cX1_oneSide 71 = .ok (.invokestatic 78, 3) := zk_of (zk_r (zk_l (zk_l (zk_r zdX1_oneSide_52))))
theorem dX1_oneSide_74 : decode cX1_oneSide 74 = .ok (.l2i, 1) := zk_of (zk_l (zk_l (zk_r (zk_l (zk_r zdX1_oneSide_52)))))
theorem dX1_oneSide_75 : decode cX1_oneSide 75 = .ok (.invokestatic 51, 3) := zk_of (zk_r (zk_l (zk_r (zk_l (zk_r zdX1_oneSide_52)))))
theorem dX1_oneSide_78 : decode cX1_oneSide 78 = .ok (.istore_n 1, 1) := zk_of (zk_r (zk_r (zk_l (zk_r zdX1_oneSide_52))))
theorem dX1_oneSide_0 : decode cX1_oneSide 0 = .ok (.ldc 77, 2) := zk_of (zk_l (zk_l (zk_l (zk_r (zk_r zdX1_oneSide_52)))))
theorem dX1_oneSide_2 : decode cX1_oneSide 2 = .ok (.istore_n 1, 1) := zk_of (zk_r (zk_l (zk_l (zk_r (zk_r zdX1_oneSide_52)))))
theorem dX1_oneSide_3 : decode cX1_oneSide 3 = .ok (.bipush 8, 2) := zk_of (zk_r (zk_l (zk_r (zk_r zdX1_oneSide_52))))
theorem dX1_oneSide_5 : decode cX1_oneSide 5 = .ok (.istore_n 2, 1) := zk_of (zk_l (zk_l (zk_r (zk_r (zk_r zdX1_oneSide_52)))))
theorem dX1_oneSide_6 : decode cX1_oneSide 6 = .ok (.iconst 0, 1) := zk_of (zk_r (zk_l (zk_r (zk_r (zk_r zdX1_oneSide_52)))))
theorem dX1_oneSide_7 : decode cX1_oneSide 7 = .ok (.istore_n 3, 1) := zk_of (zk_r (zk_r (zk_r (zk_r zdX1_oneSide_52))))
/-- HissHorn$Findings.oneSide()I of cell 8 -/
def rmX1_oneSide_8 : Room := { frames := 1, cells := 0, slots := 0, locals := 14 }
theorem mX1_oneSide_8_0 : Cond.constant RX1 77 (-100000000) ∈ wsX1_oneSide := (List.mem_cons_of_mem _ (List.mem_append_left _ (List.mem_of_getElem? (i := 0) rfl)))
theorem hX1_oneSide_8_X1 : ∀ w ∈ u_ws RX1 TX1 13, w ∈ wsX1_oneSide := fun w h => (List.mem_cons_of_mem _ (List.mem_append_right _ h))
theorem mX1_oneSide_8_2 : Cond.fieldLink RX1 15 "HissHorn$Findings" "many" "[I" ∈ wsX1_oneSide := (List.mem_cons_of_mem _ (List.mem_append_left _ (List.mem_of_getElem? (i := 1) rfl)))
def GX1_oneSide_8_79 (k8 : Int32 → Int32 → Int32 → SX → Option (Int32 × SX)) (z1 : Int32) (z2 : Int32) (z3 : Int32) (u : SX) : Option (Int32 × SX) := (k8 z1 z2 (z3 + 1) u)
theorem mX1_oneSide_8_3 : Cond.fieldLink RX1 11 "HissHorn$Findings" "middles" "[J" ∈ wsX1_oneSide := (List.mem_cons_of_mem _ (List.mem_append_left _ (List.mem_of_getElem? (i := 2) rfl)))
theorem mX1_oneSide_8_4 : Cond.methodLink RX1 78 Lib.MathLoose.abs_long.x ∈ wsX1_oneSide := (List.mem_cons_of_mem _ (List.mem_append_left _ (List.mem_of_getElem? (i := 3) rfl)))
theorem mX1_oneSide_8_5 : Cond.static Lib.MathLoose.abs_long.x ∈ wsX1_oneSide := (List.mem_cons_of_mem _ (List.mem_append_left _ (List.mem_of_getElem? (i := 4) rfl)))
theorem mX1_oneSide_8_6 : Cond.initialized "java/lang/Math" ∈ wsX1_oneSide := (List.mem_cons_of_mem _ (List.mem_append_left _ (List.mem_of_getElem? (i := 5) rfl)))
theorem mX1_oneSide_8_7 : Cond.code Lib.MathLoose.abs_long.x Lib.MathLoose.abs_long.code 2 (some .long) ∈ wsX1_oneSide := (List.mem_cons_of_mem _ (List.mem_append_left _ (List.mem_of_getElem? (i := 6) rfl)))
theorem mX1_oneSide_8_8 : Cond.methodLink RX1 51 Lib.Math.max.name ∈ wsX1_oneSide := (List.mem_cons_of_mem _ (List.mem_append_left _ (List.mem_of_getElem? (i := 7) rfl)))
theorem mX1_oneSide_8_9 : Cond.static Lib.Math.max.name ∈ wsX1_oneSide := (List.mem_cons_of_mem _ (List.mem_append_left _ (List.mem_of_getElem? (i := 8) rfl)))
theorem mX1_oneSide_8_10 : Cond.code Lib.Math.max.name Lib.Math.max.code 2 (some .int) ∈ wsX1_oneSide := (List.mem_cons_of_mem _ (List.mem_append_left _ (List.mem_of_getElem? (i := 9) rfl)))
def LX1_oneSide_8_8  : Nat → Int32 → Int32 → Int32 → SX → Option (Int32 × SX)
  | 0, _, _, _, _ => none
  | n + 1, z1, z2, z3, u => (if z2 ≤ z3 then (some (z1, u)) else (gd (inb z3 41) (if (u.2.1 43 z3.toNatClampNeg) ≤ 0 then (GX1_oneSide_8_79 (LX1_oneSide_8_8 n) z1 z2 z3 u) else (gd (inb (z3 + z2) 41) (if (u.2.1 43 (z3 + z2).toNatClampNeg) ≤ 0 then (GX1_oneSide_8_79 (LX1_oneSide_8_8 n) z1 z2 z3 u) else (gd (inb z3 41) (gd (inb z3 41) (gd (nzL ((u.2.1 43 z3.toNatClampNeg).toInt64)) (gd (inb (z3 + z2) 41) (gd (inb (z3 + z2) 41) (gd (nzL ((u.2.1 43 (z3 + z2).toNatClampNeg).toInt64)) (lt (((u.2.2.2.1 42 z3.toNatClampNeg) / ((u.2.1 43 z3.toNatClampNeg).toInt64)) - ((u.2.2.2.1 42 (z3 + z2).toNatClampNeg) / ((u.2.1 43 (z3 + z2).toNatClampNeg).toInt64))) fun v9 => (lt (if z1 < ((if 0 < v9 then v9 else -v9).toInt32) then ((if 0 < v9 then v9 else -v9).toInt32) else z1) fun v11 => (GX1_oneSide_8_79 (LX1_oneSide_8_8 n) v11 z2 z3 u))))))))))))))
def fX1_oneSide_8  (u : SX) : Option (Int32 × SX) := (LX1_oneSide_8_8  5000 (-100000000) 8 0 u)
set_option maxHeartbeats 4000000 in
set_option maxRecDepth 100000 in
theorem wGX1_oneSide_8_79 {p : Program} {l : Launch} {e : Env} {s : State} {m : MethodId} {args : Array Value} {below : List Frame} {meth : Method} {c : Code} {D : va_G} {cy : Nat → ClassId} {ad st : Nat → Nat} (C : Cx RX1 cX1_oneSide 6 (some .int) wsX1_oneSide p s m args meth c) (hK : Ky D [(cy 0, .int), (cy 1, .long), (cy 2, .boolean), (cy 3, .byte), (cy 4, .object "HissHorn$Text")] st s) (hJ : JX ad st) {r : Int32} {u' : SX} {k8 : Int32 → Int32 → Int32 → SX → Option (Int32 × SX)} (hk8 : ∀ (z1 : Int32) (z2 : Int32) (z3 : Int32) (u : SX) (H : Heap) (locs : List Loc) (ls : Array Slot), k8 z1 z2 z3 u = some (r, u') → va_P D vwCl (VX cy ad st u) H → va_S (Ax (AX ad) s.heap.size) s.heap H locs → lv_has ls 6 [(0, .ref (ad 8)), (1, .int z1), (2, .int z2), (3, .int z3)] → W p l e rmX1_oneSide_8 s m args below meth c H locs 0 0 (MQ below (Qi D (VX cy ad st) (AX ad) s.heap.size r u') args s 0 0 (Ax (AX ad) s.heap.size)) (F0 m 8 ls [])) (z1 : Int32) (z2 : Int32) (z3 : Int32) (u : SX) (H : Heap) (locs : List Loc) (ls : Array Slot) (h : GX1_oneSide_8_79 k8 z1 z2 z3 u = some (r, u')) (hP : va_P D vwCl (VX cy ad st u) H) (hS : va_S (Ax (AX ad) s.heap.size) s.heap H locs) (hl : lv_has ls 6 [(0, .ref (ad 8)), (1, .int z1), (2, .int z2), (3, .int z3)]) : W p l e rmX1_oneSide_8 s m args below meth c H locs 0 0 (MQ below (Qi D (VX cy ad st) (AX ad) s.heap.size r u') args s 0 0 (Ax (AX ad) s.heap.size)) (F0 m 79 ls []) := by
  unfold GX1_oneSide_8_79 at h
  refine lv_iinc (v := z3 + 1) (lv' := [(3, .int (z3 + 1)), (0, .ref (ad 8)), (1, .int z1), (2, .int z2)]) C.1 C.2.1 dX1_oneSide_79 hl (k := 3) rfl rfl (by decide) rfl (fun ls hl => ?_)
  replace hl := lv_sub (l' := [(0, .ref (ad 8)), (1, .int z1), (2, .int z2), (3, .int (z3 + 1))]) hl [1, 2, 3, 0] rfl
  refine lv_goto (tgt := 8) C.1 C.2.1 dX1_oneSide_82 (by decide) ?_
  exact hk8 _ _ _ _ _ _ _ h hP hS hl
set_option maxHeartbeats 4000000 in
set_option maxRecDepth 100000 in
theorem wLX1_oneSide_8_8 {p : Program} {l : Launch} {e : Env} {s : State} {m : MethodId} {args : Array Value} {below : List Frame} {meth : Method} {c : Code} {D : va_G} {cy : Nat → ClassId} {ad st : Nat → Nat} (C : Cx RX1 cX1_oneSide 6 (some .int) wsX1_oneSide p s m args meth c) (hK : Ky D [(cy 0, .int), (cy 1, .long), (cy 2, .boolean), (cy 3, .byte), (cy 4, .object "HissHorn$Text")] st s) (hJ : JX ad st) {r : Int32} {u' : SX}   : ∀ (n : Nat) (z1 : Int32) (z2 : Int32) (z3 : Int32) (u : SX) (H : Heap) (locs : List Loc) (ls : Array Slot), LX1_oneSide_8_8  n z1 z2 z3 u = some (r, u') → va_P D vwCl (VX cy ad st u) H → va_S (Ax (AX ad) s.heap.size) s.heap H locs → lv_has ls 6 [(0, .ref (ad 8)), (1, .int z1), (2, .int z2), (3, .int z3)] → W p l e rmX1_oneSide_8 s m args below meth c H locs 0 0 (MQ below (Qi D (VX cy ad st) (AX ad) s.heap.size r u') args s 0 0 (Ax (AX ad) s.heap.size)) (F0 m 8 ls []) := by
  intro n
  induction n with
  | zero =>
    intro z1 z2 z3 u H locs ls h
    exact absurd h (by intro q; cases q)
  | succ n ih =>
    intro z1 z2 z3 u H locs ls h hP hS hl
    rw [LX1_oneSide_8_8] at h
    refine lv_iload_n C.1 C.2.1 dX1_oneSide_8 rfl (lv_at hl 3 rfl) ?_
    refine lv_iload_n C.1 C.2.1 dX1_oneSide_9 rfl (lv_at hl 2 rfl) ?_
    refine lv_icmp_ge (tgt := 85) C.1 C.2.1 dX1_oneSide_10 (by decide) (fun c10 => ?_) (fun c10 => ?_)
    · rw [if_pos c10] at h
      refine lv_iload_n C.1 C.2.1 dX1_oneSide_85 rfl (lv_at hl 1 rfl) ?_
      cases h
      exact rt_i C hP hS dX1_oneSide_86
    · rw [if_neg c10] at h
      refine lv_aload_n C.1 C.2.1 dX1_oneSide_13 rfl (lv_at hl 0 rfl) ?_
      refine gX_8_many C hX1_oneSide_8_X1 hK hP mX1_oneSide_8_2 dX1_oneSide_14 ?_
      refine lv_iload_n C.1 C.2.1 dX1_oneSide_17 rfl (lv_at hl 3 rfl) ?_
      obtain ⟨hg1, h⟩ := gd_some h
      refine lX_43 C hK hP hg1 dX1_oneSide_18 ?_
      refine lv_if_le (tgt := 79) C.1 C.2.1 dX1_oneSide_19 (by decide) (fun c19 => ?_) (fun c19 => ?_)
      · rw [if_pos c19] at h
        exact wGX1_oneSide_8_79 C hK hJ ih _ _ _ _ _ _ _ h hP hS hl
      · rw [if_neg c19] at h
        refine lv_aload_n C.1 C.2.1 dX1_oneSide_22 rfl (lv_at hl 0 rfl) ?_
        refine gX_8_many C hX1_oneSide_8_X1 hK hP mX1_oneSide_8_2 dX1_oneSide_23 ?_
        refine lv_iload_n C.1 C.2.1 dX1_oneSide_26 rfl (lv_at hl 3 rfl) ?_
        refine lv_iload_n C.1 C.2.1 dX1_oneSide_27 rfl (lv_at hl 2 rfl) ?_
        refine lv_iadd C.1 C.2.1 dX1_oneSide_28 ?_
        obtain ⟨hg2, h⟩ := gd_some h
        refine lX_43 C hK hP hg2 dX1_oneSide_29 ?_
        refine lv_if_le (tgt := 79) C.1 C.2.1 dX1_oneSide_30 (by decide) (fun c30 => ?_) (fun c30 => ?_)
        · rw [if_pos c30] at h
          exact wGX1_oneSide_8_79 C hK hJ ih _ _ _ _ _ _ _ h hP hS hl
        · rw [if_neg c30] at h
          refine lv_aload_n C.1 C.2.1 dX1_oneSide_33 rfl (lv_at hl 0 rfl) ?_
          refine gX_8_middles C hX1_oneSide_8_X1 hK hP mX1_oneSide_8_3 dX1_oneSide_34 ?_
          refine lv_iload_n C.1 C.2.1 dX1_oneSide_37 rfl (lv_at hl 3 rfl) ?_
          obtain ⟨hg3, h⟩ := gd_some h
          refine lX_42 C hK hP hg3 dX1_oneSide_38 ?_
          refine lv_aload_n C.1 C.2.1 dX1_oneSide_39 rfl (lv_at hl 0 rfl) ?_
          refine gX_8_many C hX1_oneSide_8_X1 hK hP mX1_oneSide_8_2 dX1_oneSide_40 ?_
          refine lv_iload_n C.1 C.2.1 dX1_oneSide_43 rfl (lv_at hl 3 rfl) ?_
          obtain ⟨hg4, h⟩ := gd_some h
          refine lX_43 C hK hP hg4 dX1_oneSide_44 ?_
          refine lv_i2l (v := (u.2.1 43 z3.toNatClampNeg).toInt64) C.1 C.2.1 dX1_oneSide_45 rfl ?_
          obtain ⟨hg5, h⟩ := gd_some h
          refine lv_ldiv C.1 C.2.1 dX1_oneSide_46 (nzL_n hg5) ?_
          refine lv_aload_n C.1 C.2.1 dX1_oneSide_47 rfl (lv_at hl 0 rfl) ?_
          refine gX_8_middles C hX1_oneSide_8_X1 hK hP mX1_oneSide_8_3 dX1_oneSide_48 ?_
          refine lv_iload_n C.1 C.2.1 dX1_oneSide_51 rfl (lv_at hl 3 rfl) ?_
          refine lv_iload_n C.1 C.2.1 dX1_oneSide_52 rfl (lv_at hl 2 rfl) ?_
          refine lv_iadd C.1 C.2.1 dX1_oneSide_53 ?_
          obtain ⟨hg6, h⟩ := gd_some h
          refine lX_42 C hK hP hg6 dX1_oneSide_54 ?_
          refine lv_aload_n C.1 C.2.1 dX1_oneSide_55 rfl (lv_at hl 0 rfl) ?_
          refine gX_8_many C hX1_oneSide_8_X1 hK hP mX1_oneSide_8_2 dX1_oneSide_56 ?_
          refine lv_iload_n C.1 C.2.1 dX1_oneSide_59 rfl (lv_at hl 3 rfl) ?_
          refine lv_iload_n C.1 C.2.1 dX1_oneSide_60 rfl (lv_at hl 2 rfl) ?_
          refine lv_iadd C.1 C.2.1 dX1_oneSide_61 ?_
          obtain ⟨hg7, h⟩ := gd_some h
          refine lX_43 C hK hP hg7 dX1_oneSide_62 ?_
          refine lv_i2l (v := (u.2.1 43 (z3 + z2).toNatClampNeg).toInt64) C.1 C.2.1 dX1_oneSide_63 rfl ?_
          obtain ⟨hg8, h⟩ := gd_some h
          refine lv_ldiv C.1 C.2.1 dX1_oneSide_64 (nzL_n hg8) ?_
          refine lv_lsub C.1 C.2.1 dX1_oneSide_65 ?_
          refine lv_topl (fun v9 hv10 => ?_)
          replace h := lt_e hv10 h
          try dsimp only at h
          refine lv_lstore (lv' := [(4, .long v9), (0, .ref (ad 8)), (1, .int z1), (2, .int z2), (3, .int z3)]) C.1 C.2.1 dX1_oneSide_66 hl (by decide) rfl (fun ls hl => ?_)
          replace hl := lv_sub (l' := [(0, .ref (ad 8)), (1, .int z1), (2, .int z2), (3, .int z3), (4, .long v9)]) hl [1, 2, 3, 4, 0] rfl
          refine lv_iload_n C.1 C.2.1 dX1_oneSide_68 rfl (lv_at hl 1 rfl) ?_
          refine lv_lload C.1 C.2.1 dX1_oneSide_69 (lv_at hl 4 rfl) ?_
          refine va_mabs_long C.1 C.2.1 (C.2.2.1.trans hl.1.symm) C.2.2.2.2.1 (C.2.2.2.2.2.1 _ mX1_oneSide_8_4) (C.2.2.2.2.2.1 _ mX1_oneSide_8_5) (C.2.2.2.2.2.1 _ mX1_oneSide_8_6) (C.2.2.2.2.2.1 _ mX1_oneSide_8_7) (Nat.le_of_ble_eq_true rfl) (Nat.le_of_ble_eq_true rfl) (Nat.zero_le _) (Nat.zero_le _) dX1_oneSide_71 ?_
          refine lv_l2i (v := (if 0 < v9 then v9 else -v9).toInt32) C.1 C.2.1 dX1_oneSide_74 rfl ?_
          refine va_mmax C.1 C.2.1 (C.2.2.1.trans hl.1.symm) C.2.2.2.2.1 (C.2.2.2.2.2.1 _ mX1_oneSide_8_8) (C.2.2.2.2.2.1 _ mX1_oneSide_8_9) (C.2.2.2.2.2.1 _ mX1_oneSide_8_6) (C.2.2.2.2.2.1 _ mX1_oneSide_8_10) (Nat.le_of_ble_eq_true rfl) (Nat.le_of_ble_eq_true rfl) (Nat.zero_le _) (Nat.zero_le _) dX1_oneSide_75 ?_
          refine lv_topi (fun v11 hv12 => ?_)
          replace h := lt_e hv12 h
          try dsimp only at h
          refine lv_istore_n (lv' := [(1, .int v11), (0, .ref (ad 8)), (2, .int z2), (3, .int z3), (4, .long v9)]) C.1 C.2.1 dX1_oneSide_78 rfl hl (by decide) rfl (fun ls hl => ?_)
          replace hl := lv_sub (l' := [(0, .ref (ad 8)), (1, .int v11), (2, .int z2), (3, .int z3), (4, .long v9)]) hl [1, 0, 2, 3, 4] rfl
          exact wGX1_oneSide_8_79 C hK hJ ih _ _ _ _ _ _ _ h hP hS (lv_sub hl [0, 1, 2, 3] rfl)
set_option maxHeartbeats 4000000 in
set_option maxRecDepth 100000 in
theorem wX1_oneSide_8 {p : Program} {l : Launch} {e : Env} {s : State} {m : MethodId} {args : Array Value} {below : List Frame} {meth : Method} {c : Code} {D : va_G} {cy : Nat → ClassId} {ad st : Nat → Nat} (C : Cx RX1 cX1_oneSide 6 (some .int) wsX1_oneSide p s m args meth c) (hK : Ky D [(cy 0, .int), (cy 1, .long), (cy 2, .boolean), (cy 3, .byte), (cy 4, .object "HissHorn$Text")] st s) (hJ : JX ad st)  {u : SX} {r : Int32} {u' : SX} {H : Heap} {locs : List Loc} {ls : Array Slot} (h : fX1_oneSide_8  u = some (r, u')) (hP : va_P D vwCl (VX cy ad st u) H) (hS : va_S (Ax (AX ad) s.heap.size) s.heap H locs) (hl : lv_has ls 6 [(0, .ref (ad 8))]) : W p l e rmX1_oneSide_8 s m args below meth c H locs 0 0 (MQ below (Qi D (VX cy ad st) (AX ad) s.heap.size r u') args s 0 0 (Ax (AX ad) s.heap.size)) (F0 m 0 ls []) := by
  unfold fX1_oneSide_8 at h
  refine lv_ldc C.1 C.2.1 C.2.2.2.2.1 (C.2.2.2.2.2.1 _ mX1_oneSide_8_0) dX1_oneSide_0 ?_
  refine lv_istore_n (lv' := [(1, .int (-100000000)), (0, .ref (ad 8))]) C.1 C.2.1 dX1_oneSide_2 rfl hl (by decide) rfl (fun ls hl => ?_)
  replace hl := lv_sub (l' := [(0, .ref (ad 8)), (1, .int (-100000000))]) hl [1, 0] rfl
  refine lv_bipush (v := 8) C.1 C.2.1 dX1_oneSide_3 (by decide) ?_
  refine lv_istore_n (lv' := [(2, .int 8), (0, .ref (ad 8)), (1, .int (-100000000))]) C.1 C.2.1 dX1_oneSide_5 rfl hl (by decide) rfl (fun ls hl => ?_)
  replace hl := lv_sub (l' := [(0, .ref (ad 8)), (1, .int (-100000000)), (2, .int 8)]) hl [1, 2, 0] rfl
  refine lv_iconst (v := 0) C.1 C.2.1 dX1_oneSide_6 (by decide) ?_
  refine lv_istore_n (lv' := [(3, .int 0), (0, .ref (ad 8)), (1, .int (-100000000)), (2, .int 8)]) C.1 C.2.1 dX1_oneSide_7 rfl hl (by decide) rfl (fun ls hl => ?_)
  replace hl := lv_sub (l' := [(0, .ref (ad 8)), (1, .int (-100000000)), (2, .int 8), (3, .int 0)]) hl [1, 2, 3, 0] rfl
  exact wLX1_oneSide_8_8 C hK hJ  5000 _ _ _ _ _ _ _ h hP hS hl
theorem metX1_oneSide_8 (l : Launch) (D : va_G) (cy : Nat → ClassId) (ad st : Nat → Nat) (hJ : JX ad st) (sz : Nat)  {u : SX} {r : Int32} {u' : SX} (h : fX1_oneSide_8  u = some (r, u')) : Met l yX1_oneSide wsX1_oneSide rmX1_oneSide_8 (va_Pc [.ref (ad 8)] (Px D [(cy 0, .int), (cy 1, .long), (cy 2, .boolean), (cy 3, .byte), (cy 4, .object "HissHorn$Text")] st (VX cy ad st) sz u)) (Qi D (VX cy ad st) (AX ad) sz r u') 0 0 (Ax (AX ad) sz) := by
  refine Met.ofW (cc := cX1_oneSide) (maxL := 6) (ret := (some .int)) (by decide) rfl ?_
  intro p e s m args below meth c s₁ B hml hv
  obtain ⟨rfl, hsz, hP, hK⟩ := hv
  subst hsz
  have C : Cx RX1 cX1_oneSide 6 (some .int) wsX1_oneSide p s m _ meth c := ⟨B.exec, B.bytes, hml, B.returns, findClass_of_methodNamed B.named, atoms_spec (ws := wsX1_oneSide) B.pre, B.notSynchronized⟩
  have hl := lv_entry ([.ref (ad 8)]) (n := 6) (Nat.le_of_ble_eq_true rfl)
  rw [lg_entry_eq]
  exact wX1_oneSide_8 C hK hJ h hP va_S.rf hl

theorem zdX11_even_0 : (and (and (and (and (and (zk cX11_even 0 (.aload_n 0) 1) (zk cX11_even 1 (.iload_n 1) 1)) (and (zk cX11_even 2 (.invokevirtual 174) 3) (zk cX11_even 5 (.ifCond .eq 10) 3))) (and (and (zk cX11_even 15 (.ldc 194) 2) (zk cX11_even 17 (.ireturn) 1)) (and (zk cX11_even 8 (.iload_n 2) 1) (zk cX11_even 9 (.invokestatic 177) 3)))) (and (and (and (zk cX11_even 12 (.ifCond .ne 6) 3) (zk cX11_even 18 (.aload_n 0) 1)) (and (zk cX11_even 19 (.getfield 58) 3) (zk cX11_even 22 (.iload_n 1) 1))) (and (and (zk cX11_even 23 (.invokevirtual 214) 3) (zk cX11_even 26 (.aload_n 0) 1)) (and (zk cX11_even 27 (.getfield 67) 3) (zk cX11_even 30 (.iconst 0) 1))))) (and (and (and (and (zk cX11_even 31 (.invokevirtual 233) 3) (zk cX11_even 34 (.istore_n 3) 1)) (and (zk cX11_even 35 (.iload_n 2) 1) (zk cX11_even 36 (.iconst 1) 1))) (and (and (zk cX11_even 37 (.if_icmp .ne 11) 3) (zk cX11_even 48 (.iload_n 3) 1)) (and (zk cX11_even 49 (.iconst 2) 1) (zk cX11_even 50 (.if_icmp .ge 8) 3)))) (and (and (and (zk cX11_even 58 (.aload_n 0) 1) (zk cX11_even 59 (.getfield 67) 3)) (and (zk cX11_even 62 (.invokevirtual 236) 3) (zk cX11_even 65 (.ireturn) 1))) (and (and (zk cX11_even 53 (.ldc 194) 2) (zk cX11_even 55 (.goto 10) 3)) (and (zk cX11_even 40 (.aload_n 0) 1) (zk cX11_even 41 (.getfield 67) 3)))))) = true := by decide +kernel
theorem dX11_even_0 : decode cX11_even 0 = .ok (.aload_n 0, 1) := zk_of (zk_l (zk_l (zk_l (zk_l (zk_l zdX11_even_0)))))
theorem dX11_even_1 : decode cX11_even 1 = .ok (.iload_n 1, 1) := zk_of (zk_r (zk_l (zk_l (zk_l (zk_l zdX11_even_0)))))
theorem dX11_even_2 : decode cX11_even 2 = .ok (.invokevirtual 174, 3) := zk_of (zk_l (zk_r (zk_l (zk_l (zk_l zdX11_even_0)))))
theorem dX11_even_5 : decode cX11_even 5 = .ok (.ifCond .eq 10, 3) := zk_of (zk_r (zk_r (zk_l (zk_l (zk_l zdX11_even_0)))))
theorem dX11_even_15 : decode cX11_even 15 = .ok (.ldc 194, 2) := zk_of (zk_l (zk_l (zk_r (zk_l (zk_l zdX11_even_0)))))
theorem dX11_even_17 : decode cX11_even 17 = .ok (.ireturn, 1) := zk_of (zk_r (zk_l (zk_r (zk_l (zk_l zdX11_even_0)))))
theorem dX11_even_8 : decode cX11_even 8 = .ok (.iload_n 2, 1) := zk_of (zk_l (zk_r (zk_r (zk_l (zk_l zdX11_even_0)))))
theorem dX11_even_9 : decode cX11_even 9 = .ok (.invokestatic 177, 3) := zk_of (zk_r (zk_r (zk_r (zk_l (zk_l zdX11_even_0)))))
theorem dX11_even_12 : decode cX11_even 12 = .ok (.ifCond .ne 6, 3) := zk_of (zk_l (zk_l (zk_l (zk_r (zk_l zdX11_even_0)))))
theorem dX11_even_18 : decode cX11_even 18 = .ok (.aload_n 0, 1) := zk_of (zk_r (zk_l (zk_l (zk_r (zk_l zdX11_even_0)))))
theorem dX11_even_19 : decode cX11_even 19 = .ok (.getfield 58, 3) := zk_of (zk_l (zk_r (zk_l (zk_r (zk_l zdX11_even_0)))))
theorem dX11_even_22 : decode cX11_even 22 = .ok (.iload_n 1, 1) := zk_of (zk_r (zk_r (zk_l (zk_r (zk_l zdX11_even_0)))))
theorem dX11_even_23 : decode cX11_even 23 = .ok (.invokevirtual 214, 3) := zk_of (zk_l (zk_l (zk_r (zk_r (zk_l zdX11_even_0)))))
theorem dX11_even_26 : decode cX11_even 26 = .ok (.aload_n 0, 1) := zk_of (zk_r (zk_l (zk_r (zk_r (zk_l zdX11_even_0)))))
theorem dX11_even_27 : decode cX11_even 27 = .ok (.getfield 67, 3) := zk_of (zk_l (zk_r (zk_r (zk_r (zk_l zdX11_even_0)))))
theorem dX11_even_30 : decode cX11_even 30 = .ok (.iconst 0, 1) := zk_of (zk_r (zk_r (zk_r (zk_r (zk_l zdX11_even_0)))))
theorem dX11_even_31 : decode cX11_even 31 = .ok (.invokevirtual 233, 3) := zk_of (zk_l (zk_l (zk_l (zk_l (zk_r zdX11_even_0)))))
theorem dX11_even_34 : decode cX11_even 34 = .ok (.istore_n 3, 1) := zk_of (zk_r (zk_l (zk_l (zk_l (zk_r zdX11_even_0)))))
theorem dX11_even_35 : decode cX11_even 35 = .ok (.iload_n 2, 1) := zk_of (zk_l (zk_r (zk_l (zk_l (zk_r zdX11_even_0)))))
theorem dX11_even_36 : decode cX11_even 36 = .ok (.iconst 1, 1) := zk_of (zk_r (zk_r (zk_l (zk_l (zk_r zdX11_even_0)))))
theorem dX11_even_37 : decode cX11_even 37 = .ok (.if_icmp .ne 11, 3) := zk_of (zk_l (zk_l (zk_r (zk_l (zk_r zdX11_even_0)))))
theorem dX11_even_48 : decode cX11_even 48 = .ok (.iload_n 3, 1) := zk_of (zk_r (zk_l (zk_r (zk_l (zk_r zdX11_even_0)))))
theorem dX11_even_49 : decode cX11_even 49 = .ok (.iconst 2, 1) := zk_of (zk_l (zk_r (zk_r (zk_l (zk_r zdX11_even_0)))))
theorem dX11_even_50 : decode cX11_even 50 = .ok (.if_icmp .ge 8, 3) := zk_of (zk_r (zk_r (zk_r (zk_l (zk_r zdX11_even_0)))))
theorem dX11_even_58 : decode cX11_even 58 = .ok (.aload_n 0, 1) := zk_of (zk_l (zk_l (zk_l (zk_r (zk_r zdX11_even_0)))))
theorem dX11_even_59 : decode cX11_even 59 = .ok (.getfield 67, 3) := zk_of (zk_r (zk_l (zk_l (zk_r (zk_r zdX11_even_0)))))
theorem dX11_even_62 : decode cX11_even 62 = .ok (.invokevirtual 236, 3) := zk_of (zk_l (zk_r (zk_l (zk_r (zk_r zdX11_even_0)))))
theorem dX11_even_65 : decode cX11_even 65 = .ok (.ireturn, 1) := zk_of (zk_r (zk_r (zk_l (zk_r (zk_r zdX11_even_0)))))
theorem dX11_even_53 : decode cX11_even 53 = .ok (.ldc 194, 2) := zk_of (zk_l (zk_l (zk_r (zk_r (zk_r zdX11_even_0)))))
theorem dX11_even_55 : decode cX11_even 55 = .ok (.goto 10, 3) := zk_of (zk_r (zk_l (zk_r (zk_r (zk_r zdX11_even_0)))))
theorem dX11_even_40 : decode cX11_even 40 = .ok (.aload_n 0, 1) := zk_of (zk_l (zk_r (zk_r (zk_r (zk_r zdX11_even_0)))))
theorem dX11_even_41 : decode cX11_even 41 = .ok (.getfield 67, 3) := zk_of (zk_r (zk_r (zk_r (zk_r (zk_r zdX11_even_0)))))
set_option maxRecDepth 20000 in
theorem ggX11_even_X11_isDay : GoodIn wsX11_even wsX11_isDay := ggi (fun w h => List.mem_cons_of_mem _ (List.mem_append_left _ (List.mem_append_left _ (List.mem_append_left _ (List.mem_append_left _ (List.mem_append_left _ (List.mem_append_left _ (List.mem_append_right _ (List.mem_append_left _ h))))))))) gs_X11_isDay
set_option maxRecDepth 20000 in
theorem gX11_even_X11_isDay : GoodIn wsX11_even (wsV RX11 174 RX11 yX11_isDay wsX11_isDay) := goodIn_app (goodIn_of _ (by decide +kernel)) ggX11_even_X11_isDay
set_option maxRecDepth 20000 in
theorem ggX11_even_X11_isEither : GoodIn wsX11_even wsX11_isEither := ggi (fun w h => List.mem_cons_of_mem _ (List.mem_append_left _ (List.mem_append_left _ (List.mem_append_left _ (List.mem_append_left _ (List.mem_append_left _ (List.mem_append_left _ (List.mem_append_right _ (List.mem_append_right _ (List.mem_append_left _ h)))))))))) gs_X11_isEither
set_option maxRecDepth 20000 in
theorem gX11_even_X11_isEither : GoodIn wsX11_even (va_wsS RX11 177 yX11_isEither wsX11_isEither) := goodIn_app (goodIn_of _ (by decide +kernel)) ggX11_even_X11_isEither
set_option maxRecDepth 20000 in
theorem ggX11_even_X7_recall : GoodIn wsX11_even wsX7_recall := ggi (fun w h => List.mem_cons_of_mem _ (List.mem_append_left _ (List.mem_append_left _ (List.mem_append_left _ (List.mem_append_left _ (List.mem_append_left _ (List.mem_append_left _ (List.mem_append_right _ (List.mem_append_right _ (List.mem_append_right _ (List.mem_append_left _ h))))))))))) gs_X7_recall
set_option maxRecDepth 20000 in
theorem gX11_even_X7_recall : GoodIn wsX11_even (wsV RX11 214 RX7 yX7_recall wsX7_recall) := goodIn_app (goodIn_of _ (by decide +kernel)) ggX11_even_X7_recall
set_option maxRecDepth 20000 in
theorem ggX11_even_X1_meansBy : GoodIn wsX11_even wsX1_meansBy := ggi (fun w h => List.mem_cons_of_mem _ (List.mem_append_left _ (List.mem_append_left _ (List.mem_append_left _ (List.mem_append_left _ (List.mem_append_left _ (List.mem_append_left _ (List.mem_append_right _ (List.mem_append_right _ (List.mem_append_right _ (List.mem_append_right _ (List.mem_append_left _ h)))))))))))) gs_X1_meansBy
set_option maxRecDepth 20000 in
theorem gX11_even_X1_meansBy : GoodIn wsX11_even (wsV RX11 233 RX1 yX1_meansBy wsX1_meansBy) := goodIn_app (goodIn_of _ (by decide +kernel)) ggX11_even_X1_meansBy
set_option maxRecDepth 20000 in
theorem ggX11_even_X1_distance : GoodIn wsX11_even wsX1_distance := ggi (fun w h => List.mem_cons_of_mem _ (List.mem_append_left _ (List.mem_append_left _ (List.mem_append_left _ (List.mem_append_left _ (List.mem_append_left _ (List.mem_append_left _ (List.mem_append_right _ (List.mem_append_right _ (List.mem_append_right _ (List.mem_append_right _ (List.mem_append_right _ (List.mem_append_left _ h))))))))))))) gs_X1_distance
set_option maxRecDepth 20000 in
theorem gX11_even_X1_distance : GoodIn wsX11_even (wsV RX11 236 RX1 yX1_distance wsX1_distance) := goodIn_app (goodIn_of _ (by decide +kernel)) ggX11_even_X1_distance
set_option maxRecDepth 20000 in
theorem ggX11_even_X1_oneSide : GoodIn wsX11_even wsX1_oneSide := ggi (fun w h => List.mem_cons_of_mem _ (List.mem_append_left _ (List.mem_append_left _ (List.mem_append_left _ (List.mem_append_left _ (List.mem_append_left _ (List.mem_append_left _ (List.mem_append_right _ (List.mem_append_right _ (List.mem_append_right _ (List.mem_append_right _ (List.mem_append_right _ (List.mem_append_right _ h))))))))))))) gs_X1_oneSide
set_option maxRecDepth 20000 in
theorem gX11_even_X1_oneSide : GoodIn wsX11_even (wsV RX11 376 RX1 yX1_oneSide wsX1_oneSide) := goodIn_app (goodIn_of _ (by decide +kernel)) ggX11_even_X1_oneSide
theorem zdX11_even_44 : (and (zk cX11_even 44 (.invokevirtual 376) 3) (zk cX11_even 47 (.ireturn) 1)) = true := by decide +kernel
theorem dX11_even_44 : decode cX11_even 44 = .ok (.invokevirtual 376, 3) := zk_of (zk_l zdX11_even_44)
theorem dX11_even_47 : decode cX11_even 47 = .ok (.ireturn, 1) := zk_of (zk_r zdX11_even_44)
/-- HissHorn.even(II)I of cell 0 -/
def rmX11_even_0 : Room := { frames := 7, cells := 0, slots := 0, locals := 162 }
theorem mX11_even_0_0 : Cond.constant RX11 194 (-100000000) ∈ wsX11_even := (List.mem_cons_of_mem _ (List.mem_append_left _ (List.mem_append_left _ (List.mem_append_left _ (List.mem_append_left _ (List.mem_append_left _ (List.mem_append_left _ (List.mem_append_left _ (List.mem_of_getElem? (i := 20) rfl)))))))))
theorem hX11_even_0_X11 : ∀ w ∈ u_ws RX11 TX11 13, w ∈ wsX11_even := fun w h => (List.mem_cons_of_mem _ (List.mem_append_left _ (List.mem_append_left _ (List.mem_append_left _ (List.mem_append_left _ (List.mem_append_left _ (List.mem_append_right _ h)))))))
theorem mX11_even_0_2 : Cond.fieldLink RX11 58 "HissHorn" "readings" "LHissHorn$Readings;" ∈ wsX11_even := (List.mem_cons_of_mem _ (List.mem_append_left _ (List.mem_append_left _ (List.mem_append_left _ (List.mem_append_left _ (List.mem_append_left _ (List.mem_append_left _ (List.mem_append_left _ (List.mem_of_getElem? (i := 21) rfl)))))))))
theorem mX11_even_0_3 : Cond.fieldLink RX11 67 "HissHorn" "findings" "LHissHorn$Findings;" ∈ wsX11_even := (List.mem_cons_of_mem _ (List.mem_append_left _ (List.mem_append_left _ (List.mem_append_left _ (List.mem_append_left _ (List.mem_append_left _ (List.mem_append_left _ (List.mem_append_left _ (List.mem_of_getElem? (i := 22) rfl)))))))))
def fX11_even_0 (x1 : Int32) (x2 : Int32) (u : SX) : Option (Int32 × SX) := ((fX11_isDay_0 x1 u).bind fun q => match q with | (r1, u2) => (if r1 = 0 then (some ((-100000000), u2)) else ((fX11_isEither x2).bind fun r4 => (if r4 = 0 then (some ((-100000000), u2)) else ((fX7_recall_7 x1 u2).bind fun q => match q with | (r7, u8) => ((fX1_meansBy_8 0 u8).bind fun q => match q with | (r10, u11) => (if x2 = 1 then ((fX1_oneSide_8  u11).bind fun q => match q with | (r16, u17) => (some (r16, u17))) else (if 2 ≤ r10 then ((fX1_distance_8  u11).bind fun q => match q with | (r13, u14) => (some (r13, u14))) else (some ((-100000000), u11))))))))))
set_option maxHeartbeats 4000000 in
set_option maxRecDepth 100000 in
theorem wX11_even_0 {p : Program} {l : Launch} {e : Env} {s : State} {m : MethodId} {args : Array Value} {below : List Frame} {meth : Method} {c : Code} {D : va_G} {cy : Nat → ClassId} {ad st : Nat → Nat} (C : Cx RX11 cX11_even 4 (some .int) wsX11_even p s m args meth c) (hK : Ky D [(cy 0, .int), (cy 1, .long), (cy 2, .boolean), (cy 3, .byte), (cy 4, .object "HissHorn$Text")] st s) (hJ : JX ad st) (x1 : Int32) (x2 : Int32) {u : SX} {r : Int32} {u' : SX} {H : Heap} {locs : List Loc} {ls : Array Slot} (h : fX11_even_0 x1 x2 u = some (r, u')) (hP : va_P D vwCl (VX cy ad st u) H) (hS : va_S (Ax (AX ad) s.heap.size) s.heap H locs) (hl : lv_has ls 4 [(0, .ref (ad 0)), (1, .int x1), (2, .int x2)]) : W p l e rmX11_even_0 s m args below meth c H locs 0 0 (MQ below (Qi D (VX cy ad st) (AX ad) s.heap.size r u') args s 0 0 (Ax (AX ad) s.heap.size)) (F0 m 0 ls []) := by
  unfold fX11_even_0 at h
  refine lv_aload_n C.1 C.2.1 dX11_even_0 rfl (lv_at hl 0 rfl) ?_
  refine lv_iload_n C.1 C.2.1 dX11_even_1 rfl (lv_at hl 1 rfl) ?_
  obtain ⟨⟨r1, u2⟩, hc3, h⟩ := bd_some h
  try dsimp only at h
  refine cg_i (As := [.int x1]) (rest := []) (AX_ge hJ) C hK hP hS (metX11_isDay_0 l D cy ad st hJ _ x1 hc3) (cwV 1 C.2.2.2.2.2.1 gX11_even_X11_isDay rfl rfl rfl (by decide +kernel) ⟨(Nat.le_of_ble_eq_true rfl), (Nat.le_of_ble_eq_true rfl)⟩) 0 11 rfl rfl rfl hl.1 rfl (Nat.le_of_ble_eq_true rfl) dX11_even_2 ⟨Nat.zero_le _, Nat.zero_le _⟩ (fun H locs hP hS => ?_)
  refine lv_if_eq (tgt := 15) C.1 C.2.1 dX11_even_5 (by decide) (fun c5 => ?_) (fun c5 => ?_)
  · rw [if_pos c5] at h
    refine lv_ldc C.1 C.2.1 C.2.2.2.2.1 (C.2.2.2.2.2.1 _ mX11_even_0_0) dX11_even_15 ?_
    cases h
    exact rt_i C hP hS dX11_even_17
  · rw [if_neg c5] at h
    refine lv_iload_n C.1 C.2.1 dX11_even_8 rfl (lv_at hl 2 rfl) ?_
    obtain ⟨r4, hc6, h⟩ := bd_some h
    refine cs_i (As := [.int x2]) (rest := []) (AX_ge hJ) C hK hP hS (metX11_isEither l D cy st _ x2 hc6) (va_cwS 1 C.2.2.2.2.2.1 gX11_even_X11_isEither rfl rfl rfl (by decide +kernel) ⟨(Nat.le_of_ble_eq_true rfl), (Nat.le_of_ble_eq_true rfl)⟩) rfl hl.1 rfl (Nat.le_of_ble_eq_true rfl) dX11_even_9 ⟨Nat.zero_le _, Nat.zero_le _⟩ (fun H locs hP hS => ?_)
    refine lv_if_ne (tgt := 18) C.1 C.2.1 dX11_even_12 (by decide) (fun c12 => ?_) (fun c12 => ?_)
    · rw [if_neg c12] at h
      refine lv_aload_n C.1 C.2.1 dX11_even_18 rfl (lv_at hl 0 rfl) ?_
      refine gX_0_readings C hX11_even_0_X11 hK hP mX11_even_0_2 dX11_even_19 ?_
      refine lv_iload_n C.1 C.2.1 dX11_even_22 rfl (lv_at hl 1 rfl) ?_
      obtain ⟨⟨r7, u8⟩, hc9, h⟩ := bd_some h
      try dsimp only at h
      refine cg_v (As := [.int x1]) (rest := []) (AX_ge hJ) C hK hP hS (metX7_recall_7 l D cy ad st hJ _ x1 hc9) (cwV 1 C.2.2.2.2.2.1 gX11_even_X7_recall rfl rfl rfl (by decide +kernel) ⟨(Nat.le_of_ble_eq_true rfl), (Nat.le_of_ble_eq_true rfl)⟩) 7 7 rfl rfl rfl hl.1 rfl (Nat.le_of_ble_eq_true rfl) dX11_even_23 ⟨Nat.zero_le _, Nat.zero_le _⟩ (fun H locs hP hS => ?_)
      refine lv_aload_n C.1 C.2.1 dX11_even_26 rfl (lv_at hl 0 rfl) ?_
      refine gX_0_findings C hX11_even_0_X11 hK hP mX11_even_0_3 dX11_even_27 ?_
      refine lv_iconst (v := 0) C.1 C.2.1 dX11_even_30 (by decide) ?_
      obtain ⟨⟨r10, u11⟩, hc12, h⟩ := bd_some h
      try dsimp only at h
      refine cg_i (As := [.int 0]) (rest := []) (AX_ge hJ) C hK hP hS (metX1_meansBy_8 l D cy ad st hJ _ 0 hc12) (cwV 1 C.2.2.2.2.2.1 gX11_even_X1_meansBy rfl rfl rfl (by decide +kernel) ⟨(Nat.le_of_ble_eq_true rfl), (Nat.le_of_ble_eq_true rfl)⟩) 8 1 rfl rfl rfl hl.1 rfl (Nat.le_of_ble_eq_true rfl) dX11_even_31 ⟨Nat.zero_le _, Nat.zero_le _⟩ (fun H locs hP hS => ?_)
      refine lv_istore_n (lv' := [(3, .int r10), (0, .ref (ad 0)), (1, .int x1), (2, .int x2)]) C.1 C.2.1 dX11_even_34 rfl hl (by decide) rfl (fun ls hl => ?_)
      replace hl := lv_sub (l' := [(0, .ref (ad 0)), (1, .int x1), (2, .int x2), (3, .int r10)]) hl [1, 2, 3, 0] rfl
      refine lv_iload_n C.1 C.2.1 dX11_even_35 rfl (lv_at hl 2 rfl) ?_
      refine lv_iconst (v := 1) C.1 C.2.1 dX11_even_36 (by decide) ?_
      refine lv_icmp_ne (tgt := 48) C.1 C.2.1 dX11_even_37 (by decide) (fun c37 => ?_) (fun c37 => ?_)
      · rw [if_neg c37] at h
        refine lv_iload_n C.1 C.2.1 dX11_even_48 rfl (lv_at hl 3 rfl) ?_
        refine lv_iconst (v := 2) C.1 C.2.1 dX11_even_49 (by decide) ?_
        refine lv_icmp_ge (tgt := 58) C.1 C.2.1 dX11_even_50 (by decide) (fun c50 => ?_) (fun c50 => ?_)
        · rw [if_pos c50] at h
          refine lv_aload_n C.1 C.2.1 dX11_even_58 rfl (lv_at hl 0 rfl) ?_
          refine gX_0_findings C hX11_even_0_X11 hK hP mX11_even_0_3 dX11_even_59 ?_
          obtain ⟨⟨r13, u14⟩, hc15, h⟩ := bd_some h
          try dsimp only at h
          refine cg_i (As := []) (rest := []) (AX_ge hJ) C hK hP hS (metX1_distance_8 l D cy ad st hJ _  hc15) (cwV 0 C.2.2.2.2.2.1 gX11_even_X1_distance rfl rfl rfl (by decide +kernel) ⟨(Nat.le_of_ble_eq_true rfl), (Nat.le_of_ble_eq_true rfl)⟩) 8 1 rfl rfl rfl hl.1 rfl (Nat.le_of_ble_eq_true rfl) dX11_even_62 ⟨Nat.zero_le _, Nat.zero_le _⟩ (fun H locs hP hS => ?_)
          cases h
          exact rt_i C hP hS dX11_even_65
        · rw [if_neg c50] at h
          refine lv_ldc C.1 C.2.1 C.2.2.2.2.1 (C.2.2.2.2.2.1 _ mX11_even_0_0) dX11_even_53 ?_
          refine lv_goto (tgt := 65) C.1 C.2.1 dX11_even_55 (by decide) ?_
          cases h
          exact rt_i C hP hS dX11_even_65
      · rw [if_pos c37] at h
        refine lv_aload_n C.1 C.2.1 dX11_even_40 rfl (lv_at hl 0 rfl) ?_
        refine gX_0_findings C hX11_even_0_X11 hK hP mX11_even_0_3 dX11_even_41 ?_
        obtain ⟨⟨r16, u17⟩, hc18, h⟩ := bd_some h
        try dsimp only at h
        refine cg_i (As := []) (rest := []) (AX_ge hJ) C hK hP hS (metX1_oneSide_8 l D cy ad st hJ _  hc18) (cwV 0 C.2.2.2.2.2.1 gX11_even_X1_oneSide rfl rfl rfl (by decide +kernel) ⟨(Nat.le_of_ble_eq_true rfl), (Nat.le_of_ble_eq_true rfl)⟩) 8 1 rfl rfl rfl hl.1 rfl (Nat.le_of_ble_eq_true rfl) dX11_even_44 ⟨Nat.zero_le _, Nat.zero_le _⟩ (fun H locs hP hS => ?_)
        cases h
        exact rt_i C hP hS dX11_even_47
    · rw [if_pos c12] at h
      refine lv_ldc C.1 C.2.1 C.2.2.2.2.1 (C.2.2.2.2.2.1 _ mX11_even_0_0) dX11_even_15 ?_
      cases h
      exact rt_i C hP hS dX11_even_17
theorem metX11_even_0 (l : Launch) (D : va_G) (cy : Nat → ClassId) (ad st : Nat → Nat) (hJ : JX ad st) (sz : Nat) (x1 : Int32) (x2 : Int32) {u : SX} {r : Int32} {u' : SX} (h : fX11_even_0 x1 x2 u = some (r, u')) : Met l yX11_even wsX11_even rmX11_even_0 (va_Pc [.ref (ad 0), .int x1, .int x2] (Px D [(cy 0, .int), (cy 1, .long), (cy 2, .boolean), (cy 3, .byte), (cy 4, .object "HissHorn$Text")] st (VX cy ad st) sz u)) (Qi D (VX cy ad st) (AX ad) sz r u') 0 0 (Ax (AX ad) sz) := by
  refine Met.ofW (cc := cX11_even) (maxL := 4) (ret := (some .int)) (by decide) rfl ?_
  intro p e s m args below meth c s₁ B hml hv
  obtain ⟨rfl, hsz, hP, hK⟩ := hv
  subst hsz
  have C : Cx RX11 cX11_even 4 (some .int) wsX11_even p s m _ meth c := ⟨B.exec, B.bytes, hml, B.returns, findClass_of_methodNamed B.named, atoms_spec (ws := wsX11_even) B.pre, B.notSynchronized⟩
  have hl := lv_entry ([.ref (ad 0), .int x1, .int x2]) (n := 4) (Nat.le_of_ble_eq_true rfl)
  rw [lg_entry_eq]
  exact wX11_even_0 C hK hJ x1 x2 h hP va_S.rf hl

/-- HissHorn$Shelf.has(I)Z of cell 5 -/
def rmX8_has_5 : Room := { frames := 0, cells := 0, slots := 0, locals := 0 }
theorem hX8_has_5_X8 : ∀ w ∈ u_ws RX8 TX8 5, w ∈ wsX8_has := fun w h => (List.mem_cons_of_mem _ (List.mem_append_right _ h))
theorem mX8_has_5_1 : Cond.fieldLink RX8 36 "HissHorn$Shelf" "size" "I" ∈ wsX8_has := (List.mem_cons_of_mem _ (List.mem_append_left _ (List.mem_of_getElem? (i := 0) rfl)))
def fX8_has_5 (x1 : Int32) (u : SX) : Option (Int32 × SX) := (if x1 < 0 then (gd (isB 0) (some (0, u))) else (if (u.1 7) ≤ x1 then (gd (isB 0) (some (0, u))) else (gd (isB 1) (some (1, u)))))
set_option maxHeartbeats 4000000 in
set_option maxRecDepth 100000 in
theorem wX8_has_5 {p : Program} {l : Launch} {e : Env} {s : State} {m : MethodId} {args : Array Value} {below : List Frame} {meth : Method} {c : Code} {D : va_G} {cy : Nat → ClassId} {ad st : Nat → Nat} (C : Cx RX8 cX8_has 2 (some .boolean) wsX8_has p s m args meth c) (hK : Ky D [(cy 0, .int), (cy 1, .long), (cy 2, .boolean), (cy 3, .byte), (cy 4, .object "HissHorn$Text")] st s) (hJ : JX ad st) (x1 : Int32) {u : SX} {r : Int32} {u' : SX} {H : Heap} {locs : List Loc} {ls : Array Slot} (h : fX8_has_5 x1 u = some (r, u')) (hP : va_P D vwCl (VX cy ad st u) H) (hS : va_S (Ax (AX ad) s.heap.size) s.heap H locs) (hl : lv_has ls 2 [(0, .ref (ad 5)), (1, .int x1)]) : W p l e rmX8_has_5 s m args below meth c H locs 0 0 (MQ below (Qi D (VX cy ad st) (AX ad) s.heap.size r u') args s 0 0 (Ax (AX ad) s.heap.size)) (F0 m 0 ls []) := by
  unfold fX8_has_5 at h
  refine lv_iload_n C.1 C.2.1 dX8_has_0 rfl (lv_at hl 1 rfl) ?_
  refine lv_if_lt (tgt := 16) C.1 C.2.1 dX8_has_1 (by decide) (fun c1 => ?_) (fun c1 => ?_)
  · rw [if_pos c1] at h
    refine lv_iconst (v := 0) C.1 C.2.1 dX8_has_16 (by decide) ?_
    obtain ⟨hg1, h⟩ := gd_some h
    cases h
    exact rt_z hg1 C hP hS dX8_has_17
  · rw [if_neg c1] at h
    refine lv_iload_n C.1 C.2.1 dX8_has_4 rfl (lv_at hl 1 rfl) ?_
    refine lv_aload_n C.1 C.2.1 dX8_has_5 rfl (lv_at hl 0 rfl) ?_
    refine gX_5_size C hX8_has_5_X8 hK hP mX8_has_5_1 dX8_has_6 ?_
    refine lv_icmp_ge (tgt := 16) C.1 C.2.1 dX8_has_9 (by decide) (fun c9 => ?_) (fun c9 => ?_)
    · rw [if_pos c9] at h
      refine lv_iconst (v := 0) C.1 C.2.1 dX8_has_16 (by decide) ?_
      obtain ⟨hg2, h⟩ := gd_some h
      cases h
      exact rt_z hg2 C hP hS dX8_has_17
    · rw [if_neg c9] at h
      refine lv_iconst (v := 1) C.1 C.2.1 dX8_has_12 (by decide) ?_
      refine lv_goto (tgt := 17) C.1 C.2.1 dX8_has_13 (by decide) ?_
      obtain ⟨hg3, h⟩ := gd_some h
      cases h
      exact rt_z hg3 C hP hS dX8_has_17
theorem metX8_has_5 (l : Launch) (D : va_G) (cy : Nat → ClassId) (ad st : Nat → Nat) (hJ : JX ad st) (sz : Nat) (x1 : Int32) {u : SX} {r : Int32} {u' : SX} (h : fX8_has_5 x1 u = some (r, u')) : Met l yX8_has wsX8_has rmX8_has_5 (va_Pc [.ref (ad 5), .int x1] (Px D [(cy 0, .int), (cy 1, .long), (cy 2, .boolean), (cy 3, .byte), (cy 4, .object "HissHorn$Text")] st (VX cy ad st) sz u)) (Qi D (VX cy ad st) (AX ad) sz r u') 0 0 (Ax (AX ad) sz) := by
  refine Met.ofW (cc := cX8_has) (maxL := 2) (ret := (some .boolean)) (by decide) rfl ?_
  intro p e s m args below meth c s₁ B hml hv
  obtain ⟨rfl, hsz, hP, hK⟩ := hv
  subst hsz
  have C : Cx RX8 cX8_has 2 (some .boolean) wsX8_has p s m _ meth c := ⟨B.exec, B.bytes, hml, B.returns, findClass_of_methodNamed B.named, atoms_spec (ws := wsX8_has) B.pre, B.notSynchronized⟩
  have hl := lv_entry ([.ref (ad 5), .int x1]) (n := 2) (Nat.le_of_ble_eq_true rfl)
  rw [lg_entry_eq]
  exact wX8_has_5 C hK hJ x1 h hP va_S.rf hl

/-- HissHorn$Shelf.set(II)V of cell 5 -/
def rmX8_set_5 : Room := { frames := 0, cells := 0, slots := 0, locals := 0 }
theorem hX8_set_5_X8 : ∀ w ∈ u_ws RX8 TX8 5, w ∈ wsX8_set := fun w h => (List.mem_cons_of_mem _ (List.mem_append_right _ h))
theorem mX8_set_5_1 : Cond.fieldLink RX8 33 "HissHorn$Shelf" "values" "[I" ∈ wsX8_set := (List.mem_cons_of_mem _ (List.mem_append_left _ (List.mem_of_getElem? (i := 0) rfl)))
def fX8_set_5 (x1 : Int32) (x2 : Int32) (u : SX) : Option (Int32 × SX) := (if x1 < 0 then (some (0, u)) else (if 5 ≤ x1 then (some (0, u)) else (gd (inb x1 5) (lt (sA u 22 (upd (u.2.1 22) x1.toNatClampNeg x2)) fun u2 => (some (0, u2))))))
set_option maxHeartbeats 4000000 in
set_option maxRecDepth 100000 in
theorem wX8_set_5 {p : Program} {l : Launch} {e : Env} {s : State} {m : MethodId} {args : Array Value} {below : List Frame} {meth : Method} {c : Code} {D : va_G} {cy : Nat → ClassId} {ad st : Nat → Nat} (C : Cx RX8 cX8_set 3 none wsX8_set p s m args meth c) (hK : Ky D [(cy 0, .int), (cy 1, .long), (cy 2, .boolean), (cy 3, .byte), (cy 4, .object "HissHorn$Text")] st s) (hJ : JX ad st) (x1 : Int32) (x2 : Int32) {u : SX} {r : Int32} {u' : SX} {H : Heap} {locs : List Loc} {ls : Array Slot} (h : fX8_set_5 x1 x2 u = some (r, u')) (hP : va_P D vwCl (VX cy ad st u) H) (hS : va_S (Ax (AX ad) s.heap.size) s.heap H locs) (hl : lv_has ls 3 [(0, .ref (ad 5)), (1, .int x1), (2, .int x2)]) : W p l e rmX8_set_5 s m args below meth c H locs 0 0 (MQ below (Qv D (VX cy ad st) (AX ad) s.heap.size r u') args s 0 0 (Ax (AX ad) s.heap.size)) (F0 m 0 ls []) := by
  unfold fX8_set_5 at h
  refine lv_iload_n C.1 C.2.1 dX8_set_0 rfl (lv_at hl 1 rfl) ?_
  refine lv_if_lt (tgt := 20) C.1 C.2.1 dX8_set_1 (by decide) (fun c1 => ?_) (fun c1 => ?_)
  · rw [if_pos c1] at h
    cases h
    exact rt_v C hP hS dX8_set_20
  · rw [if_neg c1] at h
    refine lv_iload_n C.1 C.2.1 dX8_set_4 rfl (lv_at hl 1 rfl) ?_
    refine lv_aload_n C.1 C.2.1 dX8_set_5 rfl (lv_at hl 0 rfl) ?_
    refine gX_5_values C hX8_set_5_X8 hK hP mX8_set_5_1 dX8_set_6 ?_
    refine va_alen (v := 5) C.1 C.2.1 hK.1 hP 22 0 rfl rfl rfl dX8_set_9 ?_
    refine lv_icmp_ge (tgt := 20) C.1 C.2.1 dX8_set_10 (by decide) (fun c10 => ?_) (fun c10 => ?_)
    · rw [if_pos c10] at h
      cases h
      exact rt_v C hP hS dX8_set_20
    · rw [if_neg c10] at h
      refine lv_aload_n C.1 C.2.1 dX8_set_13 rfl (lv_at hl 0 rfl) ?_
      refine gX_5_values C hX8_set_5_X8 hK hP mX8_set_5_1 dX8_set_14 ?_
      refine lv_iload_n C.1 C.2.1 dX8_set_17 rfl (lv_at hl 1 rfl) ?_
      refine lv_iload_n C.1 C.2.1 dX8_set_18 rfl (lv_at hl 2 rfl) ?_
      obtain ⟨hg1, h⟩ := gd_some h
      refine tX_22 C hK hP hJ hS hg1 dX8_set_19 (fun H locs hP hS => ?_)
      obtain ⟨u2, hu3, h⟩ := lt_some h
      rw [← hu3] at hP
      cases h
      exact rt_v C hP hS dX8_set_20
theorem metX8_set_5 (l : Launch) (D : va_G) (cy : Nat → ClassId) (ad st : Nat → Nat) (hJ : JX ad st) (sz : Nat) (x1 : Int32) (x2 : Int32) {u : SX} {r : Int32} {u' : SX} (h : fX8_set_5 x1 x2 u = some (r, u')) : Met l yX8_set wsX8_set rmX8_set_5 (va_Pc [.ref (ad 5), .int x1, .int x2] (Px D [(cy 0, .int), (cy 1, .long), (cy 2, .boolean), (cy 3, .byte), (cy 4, .object "HissHorn$Text")] st (VX cy ad st) sz u)) (Qv D (VX cy ad st) (AX ad) sz r u') 0 0 (Ax (AX ad) sz) := by
  refine Met.ofW (cc := cX8_set) (maxL := 3) (ret := none) (by decide) rfl ?_
  intro p e s m args below meth c s₁ B hml hv
  obtain ⟨rfl, hsz, hP, hK⟩ := hv
  subst hsz
  have C : Cx RX8 cX8_set 3 none wsX8_set p s m _ meth c := ⟨B.exec, B.bytes, hml, B.returns, findClass_of_methodNamed B.named, atoms_spec (ws := wsX8_set) B.pre, B.notSynchronized⟩
  have hl := lv_entry ([.ref (ad 5), .int x1, .int x2]) (n := 3) (Nat.le_of_ble_eq_true rfl)
  rw [lg_entry_eq]
  exact wX8_set_5 C hK hJ x1 x2 h hP va_S.rf hl

theorem zdX3_doneUpTo_33 : (and (and (and (and (and (zk cX3_doneUpTo 33 (.iinc 3 1) 3) (zk cX3_doneUpTo 36 (.goto (-32)) 3)) (zk cX3_doneUpTo 4 (.iload_n 3) 1)) (and (and (zk cX3_doneUpTo 5 (.aload_n 0) 1) (zk cX3_doneUpTo 6 (.getfield 53) 3)) (zk cX3_doneUpTo 9 (.if_icmp .ge 30) 3))) (and (and (and (zk cX3_doneUpTo 39 (.iload_n 2) 1) (zk cX3_doneUpTo 40 (.ireturn) 1)) (zk cX3_doneUpTo 12 (.aload_n 0) 1)) (and (and (zk cX3_doneUpTo 13 (.iload_n 3) 1) (zk cX3_doneUpTo 14 (.invokevirtual 83) 3)) (zk cX3_doneUpTo 17 (.ifCond .eq 16) 3)))) (and (and (and (and (zk cX3_doneUpTo 20 (.aload_n 0) 1) (zk cX3_doneUpTo 21 (.getfield 24) 3)) (zk cX3_doneUpTo 24 (.iload_n 3) 1)) (and (and (zk cX3_doneUpTo 25 (.iaload) 1) (zk cX3_doneUpTo 26 (.iload_n 1) 1)) (zk cX3_doneUpTo 27 (.if_icmp .gt 6) 3))) (and (and (and (zk cX3_doneUpTo 30 (.iinc 2 1) 3) (zk cX3_doneUpTo 0 (.iconst 0) 1)) (zk cX3_doneUpTo 1 (.istore_n 2) 1)) (and (zk cX3_doneUpTo 2 (.iconst 0) 1) (zk cX3_doneUpTo 3 (.istore_n 3) 1))))) = true := by decide +kernel
theorem dX3_doneUpTo_33 : decode cX3_doneUpTo 33 = .ok (.iinc 3 1, 3) := zk_of (zk_l (zk_l (zk_l (zk_l (zk_l zdX3_doneUpTo_33)))))
theorem dX3_doneUpTo_36 : decode cX3_doneUpTo 36 = .ok (.goto (-32), 3) := zk_of (zk_r (zk_l (zk_l (zk_l (zk_l zdX3_doneUpTo_33)))))
theorem dX3_doneUpTo_4 : decode cX3_doneUpTo 4 = .ok (.iload_n 3, 1) := zk_of (zk_r (zk_l (zk_l (zk_l zdX3_doneUpTo_33))))
theorem dX3_doneUpTo_5 : decode cX3_doneUpTo 5 = .ok (.aload_n 0, 1) := zk_of (zk_l (zk_l (zk_r (zk_l (zk_l zdX3_doneUpTo_33)))))
theorem dX3_doneUpTo_6 : decode cX3_doneUpTo 6 = .ok (.getfield 53, 3) := zk_of (zk_r (zk_l (zk_r (zk_l (zk_l zdX3_doneUpTo_33)))))
theorem dX3_doneUpTo_9 : decode cX3_doneUpTo 9 = .ok (.if_icmp .ge 30, 3) := zk_of (zk_r (zk_r (zk_l (zk_l zdX3_doneUpTo_33))))
theorem dX3_doneUpTo_39 : decode cX3_doneUpTo 39 = .ok (.iload_n 2, 1) := zk_of (zk_l (zk_l (zk_l (zk_r (zk_l zdX3_doneUpTo_33)))))
theorem dX3_doneUpTo_40 : decode cX3_doneUpTo 40 = .ok (.ireturn, 1) := zk_of (zk_r (zk_l (zk_l (zk_r (zk_l zdX3_doneUpTo_33)))))
theorem dX3_doneUpTo_12 : decode cX3_doneUpTo 12 = .ok (.aload_n 0, 1) := zk_of (zk_r (zk_l (zk_r (zk_l zdX3_doneUpTo_33))))
theorem dX3_doneUpTo_13 : decode cX3_doneUpTo 13 = .ok (.iload_n 3, 1) := zk_of (zk_l (zk_l (zk_r (zk_r (zk_l zdX3_doneUpTo_33)))))
theorem dX3_doneUpTo_14 : decode cX3_doneUpTo 14 = .ok (.invokevirtual 83, 3) := zk_of (zk_r (zk_l (zk_r (zk_r (zk_l zdX3_doneUpTo_33)))))
theorem dX3_doneUpTo_17 : decode cX3_doneUpTo 17 = .ok (.ifCond .eq 16, 3) := zk_of (zk_r (zk_r (zk_r (zk_l zdX3_doneUpTo_33))))
theorem dX3_doneUpTo_20 : decode cX3_doneUpTo 20 = .ok (.aload_n 0, 1) := zk_of (zk_l (zk_l (zk_l (zk_l (zk_r zdX3_doneUpTo_33)))))
theorem dX3_doneUpTo_21 : decode cX3_doneUpTo 21 = .ok (.getfield 24, 3) := zk_of (zk_r (zk_l (zk_l (zk_l (zk_r zdX3_doneUpTo_33)))))
theorem dX3_doneUpTo_24 : decode cX3_doneUpTo 24 = .ok (.iload_n 3, 1) := zk_of (zk_r (zk_l (zk_l (zk_r zdX3_doneUpTo_33))))
theorem dX3_doneUpTo_25 : decode cX3_doneUpTo 25 = .ok (.iaload, 1) := zk_of (zk_l (zk_l (zk_r (zk_l (zk_r zdX3_doneUpTo_33)))))
theorem dX3_doneUpTo_26 : decode cX3_doneUpTo 26 = .ok (.iload_n 1, 1) := zk_of (zk_r (zk_l (zk_r (zk_l (zk_r zdX3_doneUpTo_33)))))
theorem dX3_doneUpTo_27 : decode cX3_doneUpTo 27 = .ok (.if_icmp .gt 6, 3) := zk_of (zk_r (zk_r (zk_l (zk_r zdX3_doneUpTo_33))))
theorem dX3_doneUpTo_30 : decode cX3_doneUpTo 30 = .ok (.iinc 2 1, 3) := zk_of (zk_l (zk_l (zk_l (zk_r (zk_r zdX3_doneUpTo_33)))))
theorem dX3_doneUpTo_0 : decode cX3_doneUpTo 0 = .ok (.iconst 0, 1) := zk_of (zk_r (zk_l (zk_l (zk_r (zk_r zdX3_doneUpTo_33)))))
theorem dX3_doneUpTo_1 : decode cX3_doneUpTo 1 = .ok (.istore_n 2, 1) := zk_of (zk_r (zk_l (zk_r (zk_r zdX3_doneUpTo_33))))
theorem dX3_doneUpTo_2 : decode cX3_doneUpTo 2 = .ok (.iconst 0, 1) := zk_of (zk_l (zk_r (zk_r (zk_r zdX3_doneUpTo_33))))
theorem dX3_doneUpTo_3 : decode cX3_doneUpTo 3 = .ok (.istore_n 3, 1) := zk_of (zk_r (zk_r (zk_r (zk_r zdX3_doneUpTo_33))))
set_option maxRecDepth 20000 in
theorem ggX3_doneUpTo_X3_isDone : GoodIn wsX3_doneUpTo wsX3_isDone := ggi (fun w h => List.mem_cons_of_mem _ (List.mem_append_left _ (List.mem_append_right _ h))) gs_X3_isDone
set_option maxRecDepth 20000 in
theorem gX3_doneUpTo_X3_isDone : GoodIn wsX3_doneUpTo (wsV RX3 83 RX3 yX3_isDone wsX3_isDone) := goodIn_app (goodIn_of _ (by decide +kernel)) ggX3_doneUpTo_X3_isDone
/-- HissHorn$Looks.doneUpTo(I)I of cell 10 -/
def rmX3_doneUpTo_10 : Room := { frames := 1, cells := 0, slots := 0, locals := 21 }
theorem hX3_doneUpTo_10_X3 : ∀ w ∈ u_ws RX3 TX3 19, w ∈ wsX3_doneUpTo := fun w h => (List.mem_cons_of_mem _ (List.mem_append_right _ h))
theorem mX3_doneUpTo_10_1 : Cond.fieldLink RX3 53 "HissHorn$Looks" "size" "I" ∈ wsX3_doneUpTo := (List.mem_cons_of_mem _ (List.mem_append_left _ (List.mem_append_left _ (List.mem_of_getElem? (i := 4) rfl))))
def GX3_doneUpTo_10_33 (k4 : Int32 → Int32 → Int32 → SX → Option (Int32 × SX)) (z1 : Int32) (z2 : Int32) (z3 : Int32) (u : SX) : Option (Int32 × SX) := (k4 z1 z2 (z3 + 1) u)
theorem mX3_doneUpTo_10_2 : Cond.fieldLink RX3 24 "HissHorn$Looks" "doneDay" "[I" ∈ wsX3_doneUpTo := (List.mem_cons_of_mem _ (List.mem_append_left _ (List.mem_append_left _ (List.mem_of_getElem? (i := 5) rfl))))
def LX3_doneUpTo_10_4  : Nat → Int32 → Int32 → Int32 → SX → Option (Int32 × SX)
  | 0, _, _, _, _ => none
  | n + 1, z1, z2, z3, u => (if (u.1 29) ≤ z3 then (some (z2, u)) else ((fX3_isDone_10 z3 u).bind fun q => match q with | (r1, u2) => (if r1 = 0 then (GX3_doneUpTo_10_33 (LX3_doneUpTo_10_4 n) z1 z2 z3 u2) else (gd (inb z3 10) (if z1 < (u2.2.1 52 z3.toNatClampNeg) then (GX3_doneUpTo_10_33 (LX3_doneUpTo_10_4 n) z1 z2 z3 u2) else (GX3_doneUpTo_10_33 (LX3_doneUpTo_10_4 n) z1 (z2 + 1) z3 u2))))))
def fX3_doneUpTo_10 (x1 : Int32) (u : SX) : Option (Int32 × SX) := (LX3_doneUpTo_10_4  5000 x1 0 0 u)
set_option maxHeartbeats 4000000 in
set_option maxRecDepth 100000 in
theorem wGX3_doneUpTo_10_33 {p : Program} {l : Launch} {e : Env} {s : State} {m : MethodId} {args : Array Value} {below : List Frame} {meth : Method} {c : Code} {D : va_G} {cy : Nat → ClassId} {ad st : Nat → Nat} (C : Cx RX3 cX3_doneUpTo 4 (some .int) wsX3_doneUpTo p s m args meth c) (hK : Ky D [(cy 0, .int), (cy 1, .long), (cy 2, .boolean), (cy 3, .byte), (cy 4, .object "HissHorn$Text")] st s) (hJ : JX ad st) {r : Int32} {u' : SX} {k4 : Int32 → Int32 → Int32 → SX → Option (Int32 × SX)} (hk4 : ∀ (z1 : Int32) (z2 : Int32) (z3 : Int32) (u : SX) (H : Heap) (locs : List Loc) (ls : Array Slot), k4 z1 z2 z3 u = some (r, u') → va_P D vwCl (VX cy ad st u) H → va_S (Ax (AX ad) s.heap.size) s.heap H locs → lv_has ls 4 [(0, .ref (ad 10)), (1, .int z1), (2, .int z2), (3, .int z3)] → W p l e rmX3_doneUpTo_10 s m args below meth c H locs 0 0 (MQ below (Qi D (VX cy ad st) (AX ad) s.heap.size r u') args s 0 0 (Ax (AX ad) s.heap.size)) (F0 m 4 ls [])) (z1 : Int32) (z2 : Int32) (z3 : Int32) (u : SX) (H : Heap) (locs : List Loc) (ls : Array Slot) (h : GX3_doneUpTo_10_33 k4 z1 z2 z3 u = some (r, u')) (hP : va_P D vwCl (VX cy ad st u) H) (hS : va_S (Ax (AX ad) s.heap.size) s.heap H locs) (hl : lv_has ls 4 [(0, .ref (ad 10)), (1, .int z1), (2, .int z2), (3, .int z3)]) : W p l e rmX3_doneUpTo_10 s m args below meth c H locs 0 0 (MQ below (Qi D (VX cy ad st) (AX ad) s.heap.size r u') args s 0 0 (Ax (AX ad) s.heap.size)) (F0 m 33 ls []) := by
  unfold GX3_doneUpTo_10_33 at h
  refine lv_iinc (v := z3 + 1) (lv' := [(3, .int (z3 + 1)), (0, .ref (ad 10)), (1, .int z1), (2, .int z2)]) C.1 C.2.1 dX3_doneUpTo_33 hl (k := 3) rfl rfl (by decide) rfl (fun ls hl => ?_)
  replace hl := lv_sub (l' := [(0, .ref (ad 10)), (1, .int z1), (2, .int z2), (3, .int (z3 + 1))]) hl [1, 2, 3, 0] rfl
  refine lv_goto (tgt := 4) C.1 C.2.1 dX3_doneUpTo_36 (by decide) ?_
  exact hk4 _ _ _ _ _ _ _ h hP hS hl
set_option maxHeartbeats 4000000 in
set_option maxRecDepth 100000 in
theorem wLX3_doneUpTo_10_4 {p : Program} {l : Launch} {e : Env} {s : State} {m : MethodId} {args : Array Value} {below : List Frame} {meth : Method} {c : Code} {D : va_G} {cy : Nat → ClassId} {ad st : Nat → Nat} (C : Cx RX3 cX3_doneUpTo 4 (some .int) wsX3_doneUpTo p s m args meth c) (hK : Ky D [(cy 0, .int), (cy 1, .long), (cy 2, .boolean), (cy 3, .byte), (cy 4, .object "HissHorn$Text")] st s) (hJ : JX ad st) {r : Int32} {u' : SX}   : ∀ (n : Nat) (z1 : Int32) (z2 : Int32) (z3 : Int32) (u : SX) (H : Heap) (locs : List Loc) (ls : Array Slot), LX3_doneUpTo_10_4  n z1 z2 z3 u = some (r, u') → va_P D vwCl (VX cy ad st u) H → va_S (Ax (AX ad) s.heap.size) s.heap H locs → lv_has ls 4 [(0, .ref (ad 10)), (1, .int z1), (2, .int z2), (3, .int z3)] → W p l e rmX3_doneUpTo_10 s m args below meth c H locs 0 0 (MQ below (Qi D (VX cy ad st) (AX ad) s.heap.size r u') args s 0 0 (Ax (AX ad) s.heap.size)) (F0 m 4 ls []) := by
  intro n
  induction n with
  | zero =>
    intro z1 z2 z3 u H locs ls h
    exact absurd h (by intro q; cases q)
  | succ n ih =>
    intro z1 z2 z3 u H locs ls h hP hS hl
    rw [LX3_doneUpTo_10_4] at h
    refine lv_iload_n C.1 C.2.1 dX3_doneUpTo_4 rfl (lv_at hl 3 rfl) ?_
    refine lv_aload_n C.1 C.2.1 dX3_doneUpTo_5 rfl (lv_at hl 0 rfl) ?_
    refine gX_10_size C hX3_doneUpTo_10_X3 hK hP mX3_doneUpTo_10_1 dX3_doneUpTo_6 ?_
    refine lv_icmp_ge (tgt := 39) C.1 C.2.1 dX3_doneUpTo_9 (by decide) (fun c9 => ?_) (fun c9 => ?_)
    · rw [if_pos c9] at h
      refine lv_iload_n C.1 C.2.1 dX3_doneUpTo_39 rfl (lv_at hl 2 rfl) ?_
      cases h
      exact rt_i C hP hS dX3_doneUpTo_40
    · rw [if_neg c9] at h
      refine lv_aload_n C.1 C.2.1 dX3_doneUpTo_12 rfl (lv_at hl 0 rfl) ?_
      refine lv_iload_n C.1 C.2.1 dX3_doneUpTo_13 rfl (lv_at hl 3 rfl) ?_
      obtain ⟨⟨r1, u2⟩, hc3, h⟩ := bd_some h
      try dsimp only at h
      refine cg_i (As := [.int z3]) (rest := []) (AX_ge hJ) C hK hP hS (metX3_isDone_10 l D cy ad st hJ _ z3 hc3) (cwV 1 C.2.2.2.2.2.1 gX3_doneUpTo_X3_isDone rfl rfl rfl (by decide +kernel) ⟨(Nat.le_of_ble_eq_true rfl), (Nat.le_of_ble_eq_true rfl)⟩) 10 3 rfl rfl rfl hl.1 rfl (Nat.le_of_ble_eq_true rfl) dX3_doneUpTo_14 ⟨Nat.zero_le _, Nat.zero_le _⟩ (fun H locs hP hS => ?_)
      refine lv_if_eq (tgt := 33) C.1 C.2.1 dX3_doneUpTo_17 (by decide) (fun c17 => ?_) (fun c17 => ?_)
      · rw [if_pos c17] at h
        exact wGX3_doneUpTo_10_33 C hK hJ ih _ _ _ _ _ _ _ h hP hS hl
      · rw [if_neg c17] at h
        refine lv_aload_n C.1 C.2.1 dX3_doneUpTo_20 rfl (lv_at hl 0 rfl) ?_
        refine gX_10_doneDay C hX3_doneUpTo_10_X3 hK hP mX3_doneUpTo_10_2 dX3_doneUpTo_21 ?_
        refine lv_iload_n C.1 C.2.1 dX3_doneUpTo_24 rfl (lv_at hl 3 rfl) ?_
        obtain ⟨hg4, h⟩ := gd_some h
        refine lX_52 C hK hP hg4 dX3_doneUpTo_25 ?_
        refine lv_iload_n C.1 C.2.1 dX3_doneUpTo_26 rfl (lv_at hl 1 rfl) ?_
        refine lv_icmp_gt (tgt := 33) C.1 C.2.1 dX3_doneUpTo_27 (by decide) (fun c27 => ?_) (fun c27 => ?_)
        · rw [if_pos c27] at h
          exact wGX3_doneUpTo_10_33 C hK hJ ih _ _ _ _ _ _ _ h hP hS hl
        · rw [if_neg c27] at h
          refine lv_iinc (v := z2 + 1) (lv' := [(2, .int (z2 + 1)), (0, .ref (ad 10)), (1, .int z1), (3, .int z3)]) C.1 C.2.1 dX3_doneUpTo_30 hl (k := 2) rfl rfl (by decide) rfl (fun ls hl => ?_)
          replace hl := lv_sub (l' := [(0, .ref (ad 10)), (1, .int z1), (2, .int (z2 + 1)), (3, .int z3)]) hl [1, 2, 0, 3] rfl
          exact wGX3_doneUpTo_10_33 C hK hJ ih _ _ _ _ _ _ _ h hP hS hl
set_option maxHeartbeats 4000000 in
set_option maxRecDepth 100000 in
theorem wX3_doneUpTo_10 {p : Program} {l : Launch} {e : Env} {s : State} {m : MethodId} {args : Array Value} {below : List Frame} {meth : Method} {c : Code} {D : va_G} {cy : Nat → ClassId} {ad st : Nat → Nat} (C : Cx RX3 cX3_doneUpTo 4 (some .int) wsX3_doneUpTo p s m args meth c) (hK : Ky D [(cy 0, .int), (cy 1, .long), (cy 2, .boolean), (cy 3, .byte), (cy 4, .object "HissHorn$Text")] st s) (hJ : JX ad st) (x1 : Int32) {u : SX} {r : Int32} {u' : SX} {H : Heap} {locs : List Loc} {ls : Array Slot} (h : fX3_doneUpTo_10 x1 u = some (r, u')) (hP : va_P D vwCl (VX cy ad st u) H) (hS : va_S (Ax (AX ad) s.heap.size) s.heap H locs) (hl : lv_has ls 4 [(0, .ref (ad 10)), (1, .int x1)]) : W p l e rmX3_doneUpTo_10 s m args below meth c H locs 0 0 (MQ below (Qi D (VX cy ad st) (AX ad) s.heap.size r u') args s 0 0 (Ax (AX ad) s.heap.size)) (F0 m 0 ls []) := by
  unfold fX3_doneUpTo_10 at h
  refine lv_iconst (v := 0) C.1 C.2.1 dX3_doneUpTo_0 (by decide) ?_
  refine lv_istore_n (lv' := [(2, .int 0), (0, .ref (ad 10)), (1, .int x1)]) C.1 C.2.1 dX3_doneUpTo_1 rfl hl (by decide) rfl (fun ls hl => ?_)
  replace hl := lv_sub (l' := [(0, .ref (ad 10)), (1, .int x1), (2, .int 0)]) hl [1, 2, 0] rfl
  refine lv_iconst (v := 0) C.1 C.2.1 dX3_doneUpTo_2 (by decide) ?_
  refine lv_istore_n (lv' := [(3, .int 0), (0, .ref (ad 10)), (1, .int x1), (2, .int 0)]) C.1 C.2.1 dX3_doneUpTo_3 rfl hl (by decide) rfl (fun ls hl => ?_)
  replace hl := lv_sub (l' := [(0, .ref (ad 10)), (1, .int x1), (2, .int 0), (3, .int 0)]) hl [1, 2, 3, 0] rfl
  exact wLX3_doneUpTo_10_4 C hK hJ  5000 _ _ _ _ _ _ _ h hP hS hl
theorem metX3_doneUpTo_10 (l : Launch) (D : va_G) (cy : Nat → ClassId) (ad st : Nat → Nat) (hJ : JX ad st) (sz : Nat) (x1 : Int32) {u : SX} {r : Int32} {u' : SX} (h : fX3_doneUpTo_10 x1 u = some (r, u')) : Met l yX3_doneUpTo wsX3_doneUpTo rmX3_doneUpTo_10 (va_Pc [.ref (ad 10), .int x1] (Px D [(cy 0, .int), (cy 1, .long), (cy 2, .boolean), (cy 3, .byte), (cy 4, .object "HissHorn$Text")] st (VX cy ad st) sz u)) (Qi D (VX cy ad st) (AX ad) sz r u') 0 0 (Ax (AX ad) sz) := by
  refine Met.ofW (cc := cX3_doneUpTo) (maxL := 4) (ret := (some .int)) (by decide) rfl ?_
  intro p e s m args below meth c s₁ B hml hv
  obtain ⟨rfl, hsz, hP, hK⟩ := hv
  subst hsz
  have C : Cx RX3 cX3_doneUpTo 4 (some .int) wsX3_doneUpTo p s m _ meth c := ⟨B.exec, B.bytes, hml, B.returns, findClass_of_methodNamed B.named, atoms_spec (ws := wsX3_doneUpTo) B.pre, B.notSynchronized⟩
  have hl := lv_entry ([.ref (ad 10), .int x1]) (n := 4) (Nat.le_of_ble_eq_true rfl)
  rw [lg_entry_eq]
  exact wX3_doneUpTo_10 C hK hJ x1 h hP va_S.rf hl

/-- HissHorn$Text.worthBy([I[I)I of cell T -/
def rmX10_worthBy_T_a22_a23 : Room := { frames := 2, cells := 0, slots := 0, locals := 38 }
theorem hX10_worthBy_T_a22_a23_X10 : ∀ w ∈ u_ws RX10 TX10 1, w ∈ wsX10_worthBy := fun w h => (List.mem_cons_of_mem _ (List.mem_append_right _ h))
theorem mX10_worthBy_T_a22_a23_1 : Cond.fieldLink RX10 7 "HissHorn$Text" "code" "[I" ∈ wsX10_worthBy := (List.mem_cons_of_mem _ (List.mem_append_left _ (List.mem_of_getElem? (i := 0) rfl)))
def GX10_worthBy_T_a22_a23_227 (k8 : Nat → Int32 → Int32 → Int32 → SX → Option (Int32 × SX)) (z0 : Nat) (z3 : Int32) (z4 : Int32) (z5 : Int32) (u : SX) : Option (Int32 × SX) := (k8 z0 z3 z4 (z5 + 1) u)
def GX10_worthBy_T_a22_a23_119 (k8 : Nat → Int32 → Int32 → Int32 → SX → Option (Int32 × SX)) (z0 : Nat) (z3 : Int32) (z4 : Int32) (z5 : Int32) (y0 : Int32) (y1 : Int32) (u : SX) : Option (Int32 × SX) := (gd (inb y1 120) (lt (sA u 23 (upd (u.2.1 23) y1.toNatClampNeg y0)) fun u15 => (GX10_worthBy_T_a22_a23_227 k8 z0 (z3 + 1) z4 z5 u15)))
def GX10_worthBy_T_a22_a23_101 (k8 : Nat → Int32 → Int32 → Int32 → SX → Option (Int32 × SX)) (z0 : Nat) (z3 : Int32) (z4 : Int32) (z5 : Int32) (z6 : Int32) (z7 : Int32) (u : SX) : Option (Int32 × SX) := (if z6 = 48 then (GX10_worthBy_T_a22_a23_119 k8 z0 z3 z4 z5 z7 z3 u) else (gd (inb z7 5) (GX10_worthBy_T_a22_a23_119 k8 z0 z3 z4 z5 (u.2.1 22 z7.toNatClampNeg) z3 u)))
def GX10_worthBy_T_a22_a23_79 (k8 : Nat → Int32 → Int32 → Int32 → SX → Option (Int32 × SX)) (z0 : Nat) (z3 : Int32) (z4 : Int32) (z5 : Int32) (z6 : Int32) (z7 : Int32) (u : SX) : Option (Int32 × SX) := (if 120 ≤ z3 then (some (0, u)) else (if z6 = 121 then (if z7 < 5 then (GX10_worthBy_T_a22_a23_101 k8 z0 z3 z4 z5 z6 z7 u) else (some (0, u))) else (GX10_worthBy_T_a22_a23_101 k8 z0 z3 z4 z5 z6 z7 u)))
def GX10_worthBy_T_a22_a23_167 (k8 : Nat → Int32 → Int32 → Int32 → SX → Option (Int32 × SX)) (z0 : Nat) (z3 : Int32) (z5 : Int32) (y0 : Int32) (u : SX) : Option (Int32 × SX) := (GX10_worthBy_T_a22_a23_227 k8 z0 z3 y0 z5 u)
def GX10_worthBy_T_a22_a23_60 (k8 : Nat → Int32 → Int32 → Int32 → SX → Option (Int32 × SX)) (z0 : Nat) (z3 : Int32) (z5 : Int32) (y0 : Int32) (u : SX) : Option (Int32 × SX) := (GX10_worthBy_T_a22_a23_227 k8 z0 z3 y0 z5 u)
def LX10_worthBy_T_a22_a23_8  : Nat → Nat → Int32 → Int32 → Int32 → SX → Option (Int32 × SX)
  | 0, _, _, _, _, _ => none
  | n + 1, z0, z3, z4, z5, u => (gd (decide (z0 < tN u)) (gd (decide (z0 < tN u)) (if (Int32.ofNat (tL u z0)) ≤ z5 then (some (0, u)) else (gd (decide (z0 < tN u)) (gd (decide (z0 < tN u)) (gd (inb z5 (tL u z0)) (lt ((tC u z0 z5.toNatClampNeg) &&& 255) fun v6 => (gd (decide (z0 < tN u)) (gd (decide (z0 < tN u)) (gd (inb z5 (tL u z0)) (lt ((tC u z0 z5.toNatClampNeg) >>> (8 &&& 31)) fun v11 => (if z4 = 0 then (if v6 = 48 then (GX10_worthBy_T_a22_a23_79 (LX10_worthBy_T_a22_a23_8 n) z0 z3 z4 z5 v6 v11 u) else (if v6 = 121 then (GX10_worthBy_T_a22_a23_79 (LX10_worthBy_T_a22_a23_8 n) z0 z3 z4 z5 v6 v11 u) else (if 1 ≤ z3 then (if v6 = 59 then (gd (inb (z3 - 1) 120) (some (u.2.1 23 (z3 - 1).toNatClampNeg, u))) else (if v6 = 63 then (gd (inb (z3 + (-1)) 120) (if (u.2.1 23 (z3 + (-1)).toNatClampNeg) = 0 then (GX10_worthBy_T_a22_a23_167 (LX10_worthBy_T_a22_a23_8 n) z0 (z3 + (-1)) z5 1 u) else (GX10_worthBy_T_a22_a23_167 (LX10_worthBy_T_a22_a23_8 n) z0 (z3 + (-1)) z5 0 u))) else (if v6 = 33 then (gd (inb (z3 - 1) 120) (gd (inb (z3 - 1) 120) (lt (sA u 23 (upd (u.2.1 23) (z3 - 1).toNatClampNeg (1 - (u.2.1 23 (z3 - 1).toNatClampNeg)))) fun u30 => (GX10_worthBy_T_a22_a23_227 (LX10_worthBy_T_a22_a23_8 n) z0 z3 z4 z5 u30)))) else (if 2 ≤ z3 then (gd (inb ((z3 + (-1)) - 1) 120) (gd (inb (z3 + (-1)) 120) ((fX10_join v6 ((u.2.1 23 ((z3 + (-1)) - 1).toNatClampNeg).toInt64) ((u.2.1 23 (z3 + (-1)).toNatClampNeg).toInt64)).bind fun r19 => ((fX10_bounded r19).bind fun r22 => (gd (inb ((z3 + (-1)) - 1) 120) (lt (sA u 23 (upd (u.2.1 23) ((z3 + (-1)) - 1).toNatClampNeg r22)) fun u26 => (GX10_worthBy_T_a22_a23_227 (LX10_worthBy_T_a22_a23_8 n) z0 (z3 + (-1)) z4 z5 u26))))))) else (some (0, u)))))) else (some (0, u))))) else (if v6 = 59 then (GX10_worthBy_T_a22_a23_60 (LX10_worthBy_T_a22_a23_8 n) z0 z3 z5 0 u) else (GX10_worthBy_T_a22_a23_60 (LX10_worthBy_T_a22_a23_8 n) z0 z3 z5 1 u))))))))))))))
def fX10_worthBy_T_a22_a23 (x0 : Nat) (u : SX) : Option (Int32 × SX) := (LX10_worthBy_T_a22_a23_8  5000 x0 0 0 0 u)
set_option maxHeartbeats 4000000 in
set_option maxRecDepth 100000 in
theorem wGX10_worthBy_T_a22_a23_227 {p : Program} {l : Launch} {e : Env} {s : State} {m : MethodId} {args : Array Value} {below : List Frame} {meth : Method} {c : Code} {D : va_G} {cy : Nat → ClassId} {ad st : Nat → Nat} (C : Cx RX10 cX10_worthBy 8 (some .int) wsX10_worthBy p s m args meth c) (hK : Ky D [(cy 0, .int), (cy 1, .long), (cy 2, .boolean), (cy 3, .byte), (cy 4, .object "HissHorn$Text")] st s) (hJ : JX ad st) {r : Int32} {u' : SX} {k8 : Nat → Int32 → Int32 → Int32 → SX → Option (Int32 × SX)} (hk8 : ∀ (z0 : Nat) (z3 : Int32) (z4 : Int32) (z5 : Int32) (u : SX) (H : Heap) (locs : List Loc) (ls : Array Slot), k8 z0 z3 z4 z5 u = some (r, u') → va_P D vwCl (VX cy ad st u) H → va_S (Ax (AX ad) s.heap.size) s.heap H locs → lv_has ls 8 [(0, .ref (ad (tA z0))), (1, .ref (ad 22)), (2, .ref (ad 23)), (3, .int z3), (4, .int z4), (5, .int z5)] → W p l e rmX10_worthBy_T_a22_a23 s m args below meth c H locs 0 0 (MQ below (Qi D (VX cy ad st) (AX ad) s.heap.size r u') args s 0 0 (Ax (AX ad) s.heap.size)) (F0 m 8 ls [])) (z0 : Nat) (z3 : Int32) (z4 : Int32) (z5 : Int32) (u : SX) (H : Heap) (locs : List Loc) (ls : Array Slot) (h : GX10_worthBy_T_a22_a23_227 k8 z0 z3 z4 z5 u = some (r, u')) (hP : va_P D vwCl (VX cy ad st u) H) (hS : va_S (Ax (AX ad) s.heap.size) s.heap H locs) (hl : lv_has ls 8 [(0, .ref (ad (tA z0))), (1, .ref (ad 22)), (2, .ref (ad 23)), (3, .int z3), (4, .int z4), (5, .int z5)]) : W p l e rmX10_worthBy_T_a22_a23 s m args below meth c H locs 0 0 (MQ below (Qi D (VX cy ad st) (AX ad) s.heap.size r u') args s 0 0 (Ax (AX ad) s.heap.size)) (F0 m 227 ls []) := by
  unfold GX10_worthBy_T_a22_a23_227 at h
  refine lv_iinc (v := z5 + 1) (lv' := [(5, .int (z5 + 1)), (0, .ref (ad (tA z0))), (1, .ref (ad 22)), (2, .ref (ad 23)), (3, .int z3), (4, .int z4)]) C.1 C.2.1 dX10_worthBy_227 hl (k := 5) rfl rfl (by decide) rfl (fun ls hl => ?_)
  replace hl := lv_sub (l' := [(0, .ref (ad (tA z0))), (1, .ref (ad 22)), (2, .ref (ad 23)), (3, .int z3), (4, .int z4), (5, .int (z5 + 1))]) hl [1, 2, 3, 4, 5, 0] rfl
  refine lv_goto (tgt := 8) C.1 C.2.1 dX10_worthBy_230 (by decide) ?_
  exact hk8 _ _ _ _ _ _ _ _ h hP hS hl
set_option maxHeartbeats 4000000 in
set_option maxRecDepth 100000 in
theorem wGX10_worthBy_T_a22_a23_119 {p : Program} {l : Launch} {e : Env} {s : State} {m : MethodId} {args : Array Value} {below : List Frame} {meth : Method} {c : Code} {D : va_G} {cy : Nat → ClassId} {ad st : Nat → Nat} (C : Cx RX10 cX10_worthBy 8 (some .int) wsX10_worthBy p s m args meth c) (hK : Ky D [(cy 0, .int), (cy 1, .long), (cy 2, .boolean), (cy 3, .byte), (cy 4, .object "HissHorn$Text")] st s) (hJ : JX ad st) {r : Int32} {u' : SX} {k8 : Nat → Int32 → Int32 → Int32 → SX → Option (Int32 × SX)} (hk8 : ∀ (z0 : Nat) (z3 : Int32) (z4 : Int32) (z5 : Int32) (u : SX) (H : Heap) (locs : List Loc) (ls : Array Slot), k8 z0 z3 z4 z5 u = some (r, u') → va_P D vwCl (VX cy ad st u) H → va_S (Ax (AX ad) s.heap.size) s.heap H locs → lv_has ls 8 [(0, .ref (ad (tA z0))), (1, .ref (ad 22)), (2, .ref (ad 23)), (3, .int z3), (4, .int z4), (5, .int z5)] → W p l e rmX10_worthBy_T_a22_a23 s m args below meth c H locs 0 0 (MQ below (Qi D (VX cy ad st) (AX ad) s.heap.size r u') args s 0 0 (Ax (AX ad) s.heap.size)) (F0 m 8 ls [])) (z0 : Nat) (z3 : Int32) (z4 : Int32) (z5 : Int32) (y0 : Int32) (y1 : Int32) (u : SX) (H : Heap) (locs : List Loc) (ls : Array Slot) (h : GX10_worthBy_T_a22_a23_119 k8 z0 z3 z4 z5 y0 y1 u = some (r, u')) (hP : va_P D vwCl (VX cy ad st u) H) (hS : va_S (Ax (AX ad) s.heap.size) s.heap H locs) (hl : lv_has ls 8 [(0, .ref (ad (tA z0))), (1, .ref (ad 22)), (2, .ref (ad 23)), (3, .int z3), (4, .int z4), (5, .int z5)]) : W p l e rmX10_worthBy_T_a22_a23 s m args below meth c H locs 0 0 (MQ below (Qi D (VX cy ad st) (AX ad) s.heap.size r u') args s 0 0 (Ax (AX ad) s.heap.size)) (F0 m 119 ls [.int y0, .int y1, .ref (ad 23)]) := by
  unfold GX10_worthBy_T_a22_a23_119 at h
  obtain ⟨hg14, h⟩ := gd_some h
  refine tX_23 C hK hP hJ hS hg14 dX10_worthBy_119 (fun H locs hP hS => ?_)
  obtain ⟨u15, hu16, h⟩ := lt_some h
  rw [← hu16] at hP
  refine lv_iinc (v := z3 + 1) (lv' := [(3, .int (z3 + 1)), (0, .ref (ad (tA z0))), (1, .ref (ad 22)), (2, .ref (ad 23)), (4, .int z4), (5, .int z5)]) C.1 C.2.1 dX10_worthBy_120 hl (k := 3) rfl rfl (by decide) rfl (fun ls hl => ?_)
  replace hl := lv_sub (l' := [(0, .ref (ad (tA z0))), (1, .ref (ad 22)), (2, .ref (ad 23)), (3, .int (z3 + 1)), (4, .int z4), (5, .int z5)]) hl [1, 2, 3, 0, 4, 5] rfl
  refine lv_goto (tgt := 227) C.1 C.2.1 dX10_worthBy_123 (by decide) ?_
  exact wGX10_worthBy_T_a22_a23_227 C hK hJ hk8 _ _ _ _ _ _ _ _ h hP hS hl
set_option maxHeartbeats 4000000 in
set_option maxRecDepth 100000 in
theorem wGX10_worthBy_T_a22_a23_101 {p : Program} {l : Launch} {e : Env} {s : State} {m : MethodId} {args : Array Value} {below : List Frame} {meth : Method} {c : Code} {D : va_G} {cy : Nat → ClassId} {ad st : Nat → Nat} (C : Cx RX10 cX10_worthBy 8 (some .int) wsX10_worthBy p s m args meth c) (hK : Ky D [(cy 0, .int), (cy 1, .long), (cy 2, .boolean), (cy 3, .byte), (cy 4, .object "HissHorn$Text")] st s) (hJ : JX ad st) {r : Int32} {u' : SX} {k8 : Nat → Int32 → Int32 → Int32 → SX → Option (Int32 × SX)} (hk8 : ∀ (z0 : Nat) (z3 : Int32) (z4 : Int32) (z5 : Int32) (u : SX) (H : Heap) (locs : List Loc) (ls : Array Slot), k8 z0 z3 z4 z5 u = some (r, u') → va_P D vwCl (VX cy ad st u) H → va_S (Ax (AX ad) s.heap.size) s.heap H locs → lv_has ls 8 [(0, .ref (ad (tA z0))), (1, .ref (ad 22)), (2, .ref (ad 23)), (3, .int z3), (4, .int z4), (5, .int z5)] → W p l e rmX10_worthBy_T_a22_a23 s m args below meth c H locs 0 0 (MQ below (Qi D (VX cy ad st) (AX ad) s.heap.size r u') args s 0 0 (Ax (AX ad) s.heap.size)) (F0 m 8 ls [])) (z0 : Nat) (z3 : Int32) (z4 : Int32) (z5 : Int32) (z6 : Int32) (z7 : Int32) (u : SX) (H : Heap) (locs : List Loc) (ls : Array Slot) (h : GX10_worthBy_T_a22_a23_101 k8 z0 z3 z4 z5 z6 z7 u = some (r, u')) (hP : va_P D vwCl (VX cy ad st u) H) (hS : va_S (Ax (AX ad) s.heap.size) s.heap H locs) (hl : lv_has ls 8 [(0, .ref (ad (tA z0))), (1, .ref (ad 22)), (2, .ref (ad 23)), (3, .int z3), (4, .int z4), (5, .int z5), (6, .int z6), (7, .int z7)]) : W p l e rmX10_worthBy_T_a22_a23 s m args below meth c H locs 0 0 (MQ below (Qi D (VX cy ad st) (AX ad) s.heap.size r u') args s 0 0 (Ax (AX ad) s.heap.size)) (F0 m 101 ls []) := by
  unfold GX10_worthBy_T_a22_a23_101 at h
  refine lv_aload_n C.1 C.2.1 dX10_worthBy_101 rfl (lv_at hl 2 rfl) ?_
  refine lv_iload_n C.1 C.2.1 dX10_worthBy_102 rfl (lv_at hl 3 rfl) ?_
  refine lv_iload C.1 C.2.1 dX10_worthBy_103 (lv_at hl 6 rfl) ?_
  refine lv_bipush (v := 48) C.1 C.2.1 dX10_worthBy_105 (by decide) ?_
  refine lv_icmp_ne (tgt := 115) C.1 C.2.1 dX10_worthBy_107 (by decide) (fun c107 => ?_) (fun c107 => ?_)
  · rw [if_neg c107] at h
    refine lv_aload_n C.1 C.2.1 dX10_worthBy_115 rfl (lv_at hl 1 rfl) ?_
    refine lv_iload C.1 C.2.1 dX10_worthBy_116 (lv_at hl 7 rfl) ?_
    obtain ⟨hg13, h⟩ := gd_some h
    refine lX_22 C hK hP hg13 dX10_worthBy_118 ?_
    exact wGX10_worthBy_T_a22_a23_119 C hK hJ hk8 _ _ _ _ _ _ _ _ _ _ h hP hS (lv_sub hl [0, 1, 2, 3, 4, 5] rfl)
  · rw [if_pos c107] at h
    refine lv_iload C.1 C.2.1 dX10_worthBy_110 (lv_at hl 7 rfl) ?_
    refine lv_goto (tgt := 119) C.1 C.2.1 dX10_worthBy_112 (by decide) ?_
    exact wGX10_worthBy_T_a22_a23_119 C hK hJ hk8 _ _ _ _ _ _ _ _ _ _ h hP hS (lv_sub hl [0, 1, 2, 3, 4, 5] rfl)
set_option maxHeartbeats 4000000 in
set_option maxRecDepth 100000 in
theorem wGX10_worthBy_T_a22_a23_79 {p : Program} {l : Launch} {e : Env} {s : State} {m : MethodId} {args : Array Value} {below : List Frame} {meth : Method} {c : Code} {D : va_G} {cy : Nat → ClassId} {ad st : Nat → Nat} (C : Cx RX10 cX10_worthBy 8 (some .int) wsX10_worthBy p s m args meth c) (hK : Ky D [(cy 0, .int), (cy 1, .long), (cy 2, .boolean), (cy 3, .byte), (cy 4, .object "HissHorn$Text")] st s) (hJ : JX ad st) {r : Int32} {u' : SX} {k8 : Nat → Int32 → Int32 → Int32 → SX → Option (Int32 × SX)} (hk8 : ∀ (z0 : Nat) (z3 : Int32) (z4 : Int32) (z5 : Int32) (u : SX) (H : Heap) (locs : List Loc) (ls : Array Slot), k8 z0 z3 z4 z5 u = some (r, u') → va_P D vwCl (VX cy ad st u) H → va_S (Ax (AX ad) s.heap.size) s.heap H locs → lv_has ls 8 [(0, .ref (ad (tA z0))), (1, .ref (ad 22)), (2, .ref (ad 23)), (3, .int z3), (4, .int z4), (5, .int z5)] → W p l e rmX10_worthBy_T_a22_a23 s m args below meth c H locs 0 0 (MQ below (Qi D (VX cy ad st) (AX ad) s.heap.size r u') args s 0 0 (Ax (AX ad) s.heap.size)) (F0 m 8 ls [])) (z0 : Nat) (z3 : Int32) (z4 : Int32) (z5 : Int32) (z6 : Int32) (z7 : Int32) (u : SX) (H : Heap) (locs : List Loc) (ls : Array Slot) (h : GX10_worthBy_T_a22_a23_79 k8 z0 z3 z4 z5 z6 z7 u = some (r, u')) (hP : va_P D vwCl (VX cy ad st u) H) (hS : va_S (Ax (AX ad) s.heap.size) s.heap H locs) (hl : lv_has ls 8 [(0, .ref (ad (tA z0))), (1, .ref (ad 22)), (2, .ref (ad 23)), (3, .int z3), (4, .int z4), (5, .int z5), (6, .int z6), (7, .int z7)]) : W p l e rmX10_worthBy_T_a22_a23 s m args below meth c H locs 0 0 (MQ below (Qi D (VX cy ad st) (AX ad) s.heap.size r u') args s 0 0 (Ax (AX ad) s.heap.size)) (F0 m 79 ls []) := by
  unfold GX10_worthBy_T_a22_a23_79 at h
  refine lv_iload_n C.1 C.2.1 dX10_worthBy_79 rfl (lv_at hl 3 rfl) ?_
  refine lv_aload_n C.1 C.2.1 dX10_worthBy_80 rfl (lv_at hl 2 rfl) ?_
  refine va_alen (v := 120) C.1 C.2.1 hK.1 hP 23 0 rfl rfl rfl dX10_worthBy_81 ?_
  refine lv_icmp_ge (tgt := 99) C.1 C.2.1 dX10_worthBy_82 (by decide) (fun c82 => ?_) (fun c82 => ?_)
  · rw [if_pos c82] at h
    refine lv_iconst (v := 0) C.1 C.2.1 dX10_worthBy_99 (by decide) ?_
    cases h
    exact rt_i C hP hS dX10_worthBy_100
  · rw [if_neg c82] at h
    refine lv_iload C.1 C.2.1 dX10_worthBy_85 (lv_at hl 6 rfl) ?_
    refine lv_bipush (v := 121) C.1 C.2.1 dX10_worthBy_87 (by decide) ?_
    refine lv_icmp_ne (tgt := 101) C.1 C.2.1 dX10_worthBy_89 (by decide) (fun c89 => ?_) (fun c89 => ?_)
    · rw [if_neg c89] at h
      exact wGX10_worthBy_T_a22_a23_101 C hK hJ hk8 _ _ _ _ _ _ _ _ _ _ h hP hS hl
    · rw [if_pos c89] at h
      refine lv_iload C.1 C.2.1 dX10_worthBy_92 (lv_at hl 7 rfl) ?_
      refine lv_aload_n C.1 C.2.1 dX10_worthBy_94 rfl (lv_at hl 1 rfl) ?_
      refine va_alen (v := 5) C.1 C.2.1 hK.1 hP 22 0 rfl rfl rfl dX10_worthBy_95 ?_
      refine lv_icmp_lt (tgt := 101) C.1 C.2.1 dX10_worthBy_96 (by decide) (fun c96 => ?_) (fun c96 => ?_)
      · rw [if_pos c96] at h
        exact wGX10_worthBy_T_a22_a23_101 C hK hJ hk8 _ _ _ _ _ _ _ _ _ _ h hP hS hl
      · rw [if_neg c96] at h
        refine lv_iconst (v := 0) C.1 C.2.1 dX10_worthBy_99 (by decide) ?_
        cases h
        exact rt_i C hP hS dX10_worthBy_100
set_option maxHeartbeats 4000000 in
set_option maxRecDepth 100000 in
theorem wGX10_worthBy_T_a22_a23_167 {p : Program} {l : Launch} {e : Env} {s : State} {m : MethodId} {args : Array Value} {below : List Frame} {meth : Method} {c : Code} {D : va_G} {cy : Nat → ClassId} {ad st : Nat → Nat} (C : Cx RX10 cX10_worthBy 8 (some .int) wsX10_worthBy p s m args meth c) (hK : Ky D [(cy 0, .int), (cy 1, .long), (cy 2, .boolean), (cy 3, .byte), (cy 4, .object "HissHorn$Text")] st s) (hJ : JX ad st) {r : Int32} {u' : SX} {k8 : Nat → Int32 → Int32 → Int32 → SX → Option (Int32 × SX)} (hk8 : ∀ (z0 : Nat) (z3 : Int32) (z4 : Int32) (z5 : Int32) (u : SX) (H : Heap) (locs : List Loc) (ls : Array Slot), k8 z0 z3 z4 z5 u = some (r, u') → va_P D vwCl (VX cy ad st u) H → va_S (Ax (AX ad) s.heap.size) s.heap H locs → lv_has ls 8 [(0, .ref (ad (tA z0))), (1, .ref (ad 22)), (2, .ref (ad 23)), (3, .int z3), (4, .int z4), (5, .int z5)] → W p l e rmX10_worthBy_T_a22_a23 s m args below meth c H locs 0 0 (MQ below (Qi D (VX cy ad st) (AX ad) s.heap.size r u') args s 0 0 (Ax (AX ad) s.heap.size)) (F0 m 8 ls [])) (z0 : Nat) (z3 : Int32) (z5 : Int32) (y0 : Int32) (u : SX) (H : Heap) (locs : List Loc) (ls : Array Slot) (h : GX10_worthBy_T_a22_a23_167 k8 z0 z3 z5 y0 u = some (r, u')) (hP : va_P D vwCl (VX cy ad st u) H) (hS : va_S (Ax (AX ad) s.heap.size) s.heap H locs) (hl : lv_has ls 8 [(0, .ref (ad (tA z0))), (1, .ref (ad 22)), (2, .ref (ad 23)), (3, .int z3), (5, .int z5)]) : W p l e rmX10_worthBy_T_a22_a23 s m args below meth c H locs 0 0 (MQ below (Qi D (VX cy ad st) (AX ad) s.heap.size r u') args s 0 0 (Ax (AX ad) s.heap.size)) (F0 m 167 ls [.int y0]) := by
  unfold GX10_worthBy_T_a22_a23_167 at h
  refine lv_istore (lv' := [(4, .int y0), (0, .ref (ad (tA z0))), (1, .ref (ad 22)), (2, .ref (ad 23)), (3, .int z3), (5, .int z5)]) C.1 C.2.1 dX10_worthBy_167 hl (by decide) rfl (fun ls hl => ?_)
  replace hl := lv_sub (l' := [(0, .ref (ad (tA z0))), (1, .ref (ad 22)), (2, .ref (ad 23)), (3, .int z3), (4, .int y0), (5, .int z5)]) hl [1, 2, 3, 4, 0, 5] rfl
  refine lv_goto (tgt := 227) C.1 C.2.1 dX10_worthBy_169 (by decide) ?_
  exact wGX10_worthBy_T_a22_a23_227 C hK hJ hk8 _ _ _ _ _ _ _ _ h hP hS hl
set_option maxHeartbeats 4000000 in
set_option maxRecDepth 100000 in
theorem wGX10_worthBy_T_a22_a23_60 {p : Program} {l : Launch} {e : Env} {s : State} {m : MethodId} {args : Array Value} {below : List Frame} {meth : Method} {c : Code} {D : va_G} {cy : Nat → ClassId} {ad st : Nat → Nat} (C : Cx RX10 cX10_worthBy 8 (some .int) wsX10_worthBy p s m args meth c) (hK : Ky D [(cy 0, .int), (cy 1, .long), (cy 2, .boolean), (cy 3, .byte), (cy 4, .object "HissHorn$Text")] st s) (hJ : JX ad st) {r : Int32} {u' : SX} {k8 : Nat → Int32 → Int32 → Int32 → SX → Option (Int32 × SX)} (hk8 : ∀ (z0 : Nat) (z3 : Int32) (z4 : Int32) (z5 : Int32) (u : SX) (H : Heap) (locs : List Loc) (ls : Array Slot), k8 z0 z3 z4 z5 u = some (r, u') → va_P D vwCl (VX cy ad st u) H → va_S (Ax (AX ad) s.heap.size) s.heap H locs → lv_has ls 8 [(0, .ref (ad (tA z0))), (1, .ref (ad 22)), (2, .ref (ad 23)), (3, .int z3), (4, .int z4), (5, .int z5)] → W p l e rmX10_worthBy_T_a22_a23 s m args below meth c H locs 0 0 (MQ below (Qi D (VX cy ad st) (AX ad) s.heap.size r u') args s 0 0 (Ax (AX ad) s.heap.size)) (F0 m 8 ls [])) (z0 : Nat) (z3 : Int32) (z5 : Int32) (y0 : Int32) (u : SX) (H : Heap) (locs : List Loc) (ls : Array Slot) (h : GX10_worthBy_T_a22_a23_60 k8 z0 z3 z5 y0 u = some (r, u')) (hP : va_P D vwCl (VX cy ad st u) H) (hS : va_S (Ax (AX ad) s.heap.size) s.heap H locs) (hl : lv_has ls 8 [(0, .ref (ad (tA z0))), (1, .ref (ad 22)), (2, .ref (ad 23)), (3, .int z3), (5, .int z5)]) : W p l e rmX10_worthBy_T_a22_a23 s m args below meth c H locs 0 0 (MQ below (Qi D (VX cy ad st) (AX ad) s.heap.size r u') args s 0 0 (Ax (AX ad) s.heap.size)) (F0 m 60 ls [.int y0]) := by
  unfold GX10_worthBy_T_a22_a23_60 at h
  refine lv_istore (lv' := [(4, .int y0), (0, .ref (ad (tA z0))), (1, .ref (ad 22)), (2, .ref (ad 23)), (3, .int z3), (5, .int z5)]) C.1 C.2.1 dX10_worthBy_60 hl (by decide) rfl (fun ls hl => ?_)
  replace hl := lv_sub (l' := [(0, .ref (ad (tA z0))), (1, .ref (ad 22)), (2, .ref (ad 23)), (3, .int z3), (4, .int y0), (5, .int z5)]) hl [1, 2, 3, 4, 0, 5] rfl
  refine lv_goto (tgt := 227) C.1 C.2.1 dX10_worthBy_62 (by decide) ?_
  exact wGX10_worthBy_T_a22_a23_227 C hK hJ hk8 _ _ _ _ _ _ _ _ h hP hS hl
set_option maxHeartbeats 4000000 in
set_option maxRecDepth 100000 in
theorem wLX10_worthBy_T_a22_a23_8 {p : Program} {l : Launch} {e : Env} {s : State} {m : MethodId} {args : Array Value} {below : List Frame} {meth : Method} {c : Code} {D : va_G} {cy : Nat → ClassId} {ad st : Nat → Nat} (C : Cx RX10 cX10_worthBy 8 (some .int) wsX10_worthBy p s m args meth c) (hK : Ky D [(cy 0, .int), (cy 1, .long), (cy 2, .boolean), (cy 3, .byte), (cy 4, .object "HissHorn$Text")] st s) (hJ : JX ad st) {r : Int32} {u' : SX}   : ∀ (n : Nat) (z0 : Nat) (z3 : Int32) (z4 : Int32) (z5 : Int32) (u : SX) (H : Heap) (locs : List Loc) (ls : Array Slot), LX10_worthBy_T_a22_a23_8  n z0 z3 z4 z5 u = some (r, u') → va_P D vwCl (VX cy ad st u) H → va_S (Ax (AX ad) s.heap.size) s.heap H locs → lv_has ls 8 [(0, .ref (ad (tA z0))), (1, .ref (ad 22)), (2, .ref (ad 23)), (3, .int z3), (4, .int z4), (5, .int z5)] → W p l e rmX10_worthBy_T_a22_a23 s m args below meth c H locs 0 0 (MQ below (Qi D (VX cy ad st) (AX ad) s.heap.size r u') args s 0 0 (Ax (AX ad) s.heap.size)) (F0 m 8 ls []) := by
  intro n
  induction n with
  | zero =>
    intro z0 z3 z4 z5 u H locs ls h
    exact absurd h (by intro q; cases q)
  | succ n ih =>
    intro z0 z3 z4 z5 u H locs ls h hP hS hl
    rw [LX10_worthBy_T_a22_a23_8] at h
    refine lv_iload C.1 C.2.1 dX10_worthBy_8 (lv_at hl 5 rfl) ?_
    refine lv_aload_n C.1 C.2.1 dX10_worthBy_10 rfl (lv_at hl 0 rfl) ?_
    obtain ⟨hg1, h⟩ := gd_some h
    refine gX_T C hX10_worthBy_T_a22_a23_X10 hK hP (of_decide_eq_true hg1) mX10_worthBy_T_a22_a23_1 dX10_worthBy_11 ?_
    obtain ⟨hg2, h⟩ := gd_some h
    refine nX_T C hK hP (of_decide_eq_true hg2) dX10_worthBy_14 ?_
    refine lv_icmp_ge (tgt := 233) C.1 C.2.1 dX10_worthBy_15 (by decide) (fun c15 => ?_) (fun c15 => ?_)
    · rw [if_pos c15] at h
      refine lv_iconst (v := 0) C.1 C.2.1 dX10_worthBy_233 (by decide) ?_
      cases h
      exact rt_i C hP hS dX10_worthBy_234
    · rw [if_neg c15] at h
      refine lv_aload_n C.1 C.2.1 dX10_worthBy_18 rfl (lv_at hl 0 rfl) ?_
      obtain ⟨hg3, h⟩ := gd_some h
      refine gX_T C hX10_worthBy_T_a22_a23_X10 hK hP (of_decide_eq_true hg3) mX10_worthBy_T_a22_a23_1 dX10_worthBy_19 ?_
      refine lv_iload C.1 C.2.1 dX10_worthBy_22 (lv_at hl 5 rfl) ?_
      obtain ⟨hg4, h⟩ := gd_some h
      obtain ⟨hg5, h⟩ := gd_some h
      refine lX_T C hK hP (of_decide_eq_true hg4) hg5 dX10_worthBy_24 ?_
      refine lv_sipush (v := 255) C.1 C.2.1 dX10_worthBy_25 (by decide) ?_
      refine lv_iand C.1 C.2.1 dX10_worthBy_28 ?_
      refine lv_topi (fun v6 hv7 => ?_)
      replace h := lt_e hv7 h
      try dsimp only at h
      refine lv_istore (lv' := [(6, .int v6), (0, .ref (ad (tA z0))), (1, .ref (ad 22)), (2, .ref (ad 23)), (3, .int z3), (4, .int z4), (5, .int z5)]) C.1 C.2.1 dX10_worthBy_29 hl (by decide) rfl (fun ls hl => ?_)
      replace hl := lv_sub (l' := [(0, .ref (ad (tA z0))), (1, .ref (ad 22)), (2, .ref (ad 23)), (3, .int z3), (4, .int z4), (5, .int z5), (6, .int v6)]) hl [1, 2, 3, 4, 5, 6, 0] rfl
      refine lv_aload_n C.1 C.2.1 dX10_worthBy_31 rfl (lv_at hl 0 rfl) ?_
      obtain ⟨hg8, h⟩ := gd_some h
      refine gX_T C hX10_worthBy_T_a22_a23_X10 hK hP (of_decide_eq_true hg8) mX10_worthBy_T_a22_a23_1 dX10_worthBy_32 ?_
      refine lv_iload C.1 C.2.1 dX10_worthBy_35 (lv_at hl 5 rfl) ?_
      obtain ⟨hg9, h⟩ := gd_some h
      obtain ⟨hg10, h⟩ := gd_some h
      refine lX_T C hK hP (of_decide_eq_true hg9) hg10 dX10_worthBy_37 ?_
      refine lv_bipush (v := 8) C.1 C.2.1 dX10_worthBy_38 (by decide) ?_
      refine lv_ishr C.1 C.2.1 dX10_worthBy_40 ?_
      refine lv_topi (fun v11 hv12 => ?_)
      replace h := lt_e hv12 h
      try dsimp only at h
      refine lv_istore (lv' := [(7, .int v11), (0, .ref (ad (tA z0))), (1, .ref (ad 22)), (2, .ref (ad 23)), (3, .int z3), (4, .int z4), (5, .int z5), (6, .int v6)]) C.1 C.2.1 dX10_worthBy_41 hl (by decide) rfl (fun ls hl => ?_)
      replace hl := lv_sub (l' := [(0, .ref (ad (tA z0))), (1, .ref (ad 22)), (2, .ref (ad 23)), (3, .int z3), (4, .int z4), (5, .int z5), (6, .int v6), (7, .int v11)]) hl [1, 2, 3, 4, 5, 6, 7, 0] rfl
      refine lv_iload C.1 C.2.1 dX10_worthBy_43 (lv_at hl 4 rfl) ?_
      refine lv_if_eq (tgt := 65) C.1 C.2.1 dX10_worthBy_45 (by decide) (fun c45 => ?_) (fun c45 => ?_)
      · rw [if_pos c45] at h
        refine lv_iload C.1 C.2.1 dX10_worthBy_65 (lv_at hl 6 rfl) ?_
        refine lv_bipush (v := 48) C.1 C.2.1 dX10_worthBy_67 (by decide) ?_
        refine lv_icmp_eq (tgt := 79) C.1 C.2.1 dX10_worthBy_69 (by decide) (fun c69 => ?_) (fun c69 => ?_)
        · rw [if_pos c69] at h
          exact wGX10_worthBy_T_a22_a23_79 C hK hJ ih _ _ _ _ _ _ _ _ _ _ h hP hS hl
        · rw [if_neg c69] at h
          refine lv_iload C.1 C.2.1 dX10_worthBy_72 (lv_at hl 6 rfl) ?_
          refine lv_bipush (v := 121) C.1 C.2.1 dX10_worthBy_74 (by decide) ?_
          refine lv_icmp_ne (tgt := 126) C.1 C.2.1 dX10_worthBy_76 (by decide) (fun c76 => ?_) (fun c76 => ?_)
          · rw [if_neg c76] at h
            refine lv_iload_n C.1 C.2.1 dX10_worthBy_126 rfl (lv_at hl 3 rfl) ?_
            refine lv_iconst (v := 1) C.1 C.2.1 dX10_worthBy_127 (by decide) ?_
            refine lv_icmp_ge (tgt := 133) C.1 C.2.1 dX10_worthBy_128 (by decide) (fun c128 => ?_) (fun c128 => ?_)
            · rw [if_pos c128] at h
              refine lv_iload C.1 C.2.1 dX10_worthBy_133 (lv_at hl 6 rfl) ?_
              refine lv_bipush (v := 59) C.1 C.2.1 dX10_worthBy_135 (by decide) ?_
              refine lv_icmp_ne (tgt := 146) C.1 C.2.1 dX10_worthBy_137 (by decide) (fun c137 => ?_) (fun c137 => ?_)
              · rw [if_neg c137] at h
                refine lv_iload C.1 C.2.1 dX10_worthBy_146 (lv_at hl 6 rfl) ?_
                refine lv_bipush (v := 63) C.1 C.2.1 dX10_worthBy_148 (by decide) ?_
                refine lv_icmp_ne (tgt := 172) C.1 C.2.1 dX10_worthBy_150 (by decide) (fun c150 => ?_) (fun c150 => ?_)
                · rw [if_neg c150] at h
                  refine lv_iload C.1 C.2.1 dX10_worthBy_172 (lv_at hl 6 rfl) ?_
                  refine lv_bipush (v := 33) C.1 C.2.1 dX10_worthBy_174 (by decide) ?_
                  refine lv_icmp_ne (tgt := 194) C.1 C.2.1 dX10_worthBy_176 (by decide) (fun c176 => ?_) (fun c176 => ?_)
                  · rw [if_neg c176] at h
                    refine lv_iload_n C.1 C.2.1 dX10_worthBy_194 rfl (lv_at hl 3 rfl) ?_
                    refine lv_iconst (v := 2) C.1 C.2.1 dX10_worthBy_195 (by decide) ?_
                    refine lv_icmp_ge (tgt := 201) C.1 C.2.1 dX10_worthBy_196 (by decide) (fun c196 => ?_) (fun c196 => ?_)
                    · rw [if_pos c196] at h
                      refine lv_iinc (v := z3 + (-1)) (lv' := [(3, .int (z3 + (-1))), (0, .ref (ad (tA z0))), (1, .ref (ad 22)), (2, .ref (ad 23)), (4, .int z4), (5, .int z5), (6, .int v6), (7, .int v11)]) C.1 C.2.1 dX10_worthBy_201 hl (k := 3) rfl rfl (by decide) rfl (fun ls hl => ?_)
                      replace hl := lv_sub (l' := [(0, .ref (ad (tA z0))), (1, .ref (ad 22)), (2, .ref (ad 23)), (3, .int (z3 + (-1))), (4, .int z4), (5, .int z5), (6, .int v6), (7, .int v11)]) hl [1, 2, 3, 0, 4, 5, 6, 7] rfl
                      refine lv_aload_n C.1 C.2.1 dX10_worthBy_204 rfl (lv_at hl 2 rfl) ?_
                      refine lv_iload_n C.1 C.2.1 dX10_worthBy_205 rfl (lv_at hl 3 rfl) ?_
                      refine lv_iconst (v := 1) C.1 C.2.1 dX10_worthBy_206 (by decide) ?_
                      refine lv_isub C.1 C.2.1 dX10_worthBy_207 ?_
                      refine lv_iload C.1 C.2.1 dX10_worthBy_208 (lv_at hl 6 rfl) ?_
                      refine lv_aload_n C.1 C.2.1 dX10_worthBy_210 rfl (lv_at hl 2 rfl) ?_
                      refine lv_iload_n C.1 C.2.1 dX10_worthBy_211 rfl (lv_at hl 3 rfl) ?_
                      refine lv_iconst (v := 1) C.1 C.2.1 dX10_worthBy_212 (by decide) ?_
                      refine lv_isub C.1 C.2.1 dX10_worthBy_213 ?_
                      obtain ⟨hg17, h⟩ := gd_some h
                      refine lX_23 C hK hP hg17 dX10_worthBy_214 ?_
                      refine lv_i2l (v := (u.2.1 23 ((z3 + (-1)) - 1).toNatClampNeg).toInt64) C.1 C.2.1 dX10_worthBy_215 rfl ?_
                      refine lv_aload_n C.1 C.2.1 dX10_worthBy_216 rfl (lv_at hl 2 rfl) ?_
                      refine lv_iload_n C.1 C.2.1 dX10_worthBy_217 rfl (lv_at hl 3 rfl) ?_
                      obtain ⟨hg18, h⟩ := gd_some h
                      refine lX_23 C hK hP hg18 dX10_worthBy_218 ?_
                      refine lv_i2l (v := (u.2.1 23 (z3 + (-1)).toNatClampNeg).toInt64) C.1 C.2.1 dX10_worthBy_219 rfl ?_
                      obtain ⟨r19, hc21, h⟩ := bd_some h
                      refine cs_l (As := [.int v6, .long ((u.2.1 23 ((z3 + (-1)) - 1).toNatClampNeg).toInt64), .long ((u.2.1 23 (z3 + (-1)).toNatClampNeg).toInt64)]) (rest := [.int ((z3 + (-1)) - 1), .ref (ad 23)]) (AX_ge hJ) C hK hP hS (metX10_join l D cy st _ v6 ((u.2.1 23 ((z3 + (-1)) - 1).toNatClampNeg).toInt64) ((u.2.1 23 (z3 + (-1)).toNatClampNeg).toInt64) hc21) (va_cwS 3 C.2.2.2.2.2.1 gX10_worthBy_X10_join rfl rfl rfl (by decide +kernel) ⟨(Nat.le_of_ble_eq_true rfl), (Nat.le_of_ble_eq_true rfl)⟩) rfl hl.1 rfl (Nat.le_of_ble_eq_true rfl) dX10_worthBy_220 ⟨Nat.zero_le _, Nat.zero_le _⟩ (fun H locs hP hS => ?_)
                      obtain ⟨r22, hc24, h⟩ := bd_some h
                      refine cs_i (As := [.long r19]) (rest := [.int ((z3 + (-1)) - 1), .ref (ad 23)]) (AX_ge hJ) C hK hP hS (metX10_bounded l D cy st _ r19 hc24) (va_cwS 1 C.2.2.2.2.2.1 gX10_worthBy_X10_bounded rfl rfl rfl (by decide +kernel) ⟨(Nat.le_of_ble_eq_true rfl), (Nat.le_of_ble_eq_true rfl)⟩) rfl hl.1 rfl (Nat.le_of_ble_eq_true rfl) dX10_worthBy_223 ⟨Nat.zero_le _, Nat.zero_le _⟩ (fun H locs hP hS => ?_)
                      obtain ⟨hg25, h⟩ := gd_some h
                      refine tX_23 C hK hP hJ hS hg25 dX10_worthBy_226 (fun H locs hP hS => ?_)
                      obtain ⟨u26, hu27, h⟩ := lt_some h
                      rw [← hu27] at hP
                      exact wGX10_worthBy_T_a22_a23_227 C hK hJ ih _ _ _ _ _ _ _ _ h hP hS (lv_sub hl [0, 1, 2, 3, 4, 5] rfl)
                    · rw [if_neg c196] at h
                      refine lv_iconst (v := 0) C.1 C.2.1 dX10_worthBy_199 (by decide) ?_
                      cases h
                      exact rt_i C hP hS dX10_worthBy_200
                  · rw [if_pos c176] at h
                    refine lv_aload_n C.1 C.2.1 dX10_worthBy_179 rfl (lv_at hl 2 rfl) ?_
                    refine lv_iload_n C.1 C.2.1 dX10_worthBy_180 rfl (lv_at hl 3 rfl) ?_
                    refine lv_iconst (v := 1) C.1 C.2.1 dX10_worthBy_181 (by decide) ?_
                    refine lv_isub C.1 C.2.1 dX10_worthBy_182 ?_
                    refine lv_iconst (v := 1) C.1 C.2.1 dX10_worthBy_183 (by decide) ?_
                    refine lv_aload_n C.1 C.2.1 dX10_worthBy_184 rfl (lv_at hl 2 rfl) ?_
                    refine lv_iload_n C.1 C.2.1 dX10_worthBy_185 rfl (lv_at hl 3 rfl) ?_
                    refine lv_iconst (v := 1) C.1 C.2.1 dX10_worthBy_186 (by decide) ?_
                    refine lv_isub C.1 C.2.1 dX10_worthBy_187 ?_
                    obtain ⟨hg28, h⟩ := gd_some h
                    refine lX_23 C hK hP hg28 dX10_worthBy_188 ?_
                    refine lv_isub C.1 C.2.1 dX10_worthBy_189 ?_
                    obtain ⟨hg29, h⟩ := gd_some h
                    refine tX_23 C hK hP hJ hS hg29 dX10_worthBy_190 (fun H locs hP hS => ?_)
                    obtain ⟨u30, hu31, h⟩ := lt_some h
                    rw [← hu31] at hP
                    refine lv_goto (tgt := 227) C.1 C.2.1 dX10_worthBy_191 (by decide) ?_
                    exact wGX10_worthBy_T_a22_a23_227 C hK hJ ih _ _ _ _ _ _ _ _ h hP hS (lv_sub hl [0, 1, 2, 3, 4, 5] rfl)
                · rw [if_pos c150] at h
                  refine lv_iinc (v := z3 + (-1)) (lv' := [(3, .int (z3 + (-1))), (0, .ref (ad (tA z0))), (1, .ref (ad 22)), (2, .ref (ad 23)), (4, .int z4), (5, .int z5), (6, .int v6), (7, .int v11)]) C.1 C.2.1 dX10_worthBy_153 hl (k := 3) rfl rfl (by decide) rfl (fun ls hl => ?_)
                  replace hl := lv_sub (l' := [(0, .ref (ad (tA z0))), (1, .ref (ad 22)), (2, .ref (ad 23)), (3, .int (z3 + (-1))), (4, .int z4), (5, .int z5), (6, .int v6), (7, .int v11)]) hl [1, 2, 3, 0, 4, 5, 6, 7] rfl
                  refine lv_aload_n C.1 C.2.1 dX10_worthBy_156 rfl (lv_at hl 2 rfl) ?_
                  refine lv_iload_n C.1 C.2.1 dX10_worthBy_157 rfl (lv_at hl 3 rfl) ?_
                  obtain ⟨hg32, h⟩ := gd_some h
                  refine lX_23 C hK hP hg32 dX10_worthBy_158 ?_
                  refine lv_if_ne (tgt := 166) C.1 C.2.1 dX10_worthBy_159 (by decide) (fun c159 => ?_) (fun c159 => ?_)
                  · rw [if_neg c159] at h
                    refine lv_iconst (v := 0) C.1 C.2.1 dX10_worthBy_166 (by decide) ?_
                    exact wGX10_worthBy_T_a22_a23_167 C hK hJ ih _ _ _ _ _ _ _ _ h hP hS (lv_sub hl [0, 1, 2, 3, 5] rfl)
                  · rw [if_pos c159] at h
                    refine lv_iconst (v := 1) C.1 C.2.1 dX10_worthBy_162 (by decide) ?_
                    refine lv_goto (tgt := 167) C.1 C.2.1 dX10_worthBy_163 (by decide) ?_
                    exact wGX10_worthBy_T_a22_a23_167 C hK hJ ih _ _ _ _ _ _ _ _ h hP hS (lv_sub hl [0, 1, 2, 3, 5] rfl)
              · rw [if_pos c137] at h
                refine lv_aload_n C.1 C.2.1 dX10_worthBy_140 rfl (lv_at hl 2 rfl) ?_
                refine lv_iload_n C.1 C.2.1 dX10_worthBy_141 rfl (lv_at hl 3 rfl) ?_
                refine lv_iconst (v := 1) C.1 C.2.1 dX10_worthBy_142 (by decide) ?_
                refine lv_isub C.1 C.2.1 dX10_worthBy_143 ?_
                obtain ⟨hg33, h⟩ := gd_some h
                refine lX_23 C hK hP hg33 dX10_worthBy_144 ?_
                cases h
                exact rt_i C hP hS dX10_worthBy_145
            · rw [if_neg c128] at h
              refine lv_iconst (v := 0) C.1 C.2.1 dX10_worthBy_131 (by decide) ?_
              cases h
              exact rt_i C hP hS dX10_worthBy_132
          · rw [if_pos c76] at h
            exact wGX10_worthBy_T_a22_a23_79 C hK hJ ih _ _ _ _ _ _ _ _ _ _ h hP hS hl
      · rw [if_neg c45] at h
        refine lv_iload C.1 C.2.1 dX10_worthBy_48 (lv_at hl 6 rfl) ?_
        refine lv_bipush (v := 59) C.1 C.2.1 dX10_worthBy_50 (by decide) ?_
        refine lv_icmp_eq (tgt := 59) C.1 C.2.1 dX10_worthBy_52 (by decide) (fun c52 => ?_) (fun c52 => ?_)
        · rw [if_pos c52] at h
          refine lv_iconst (v := 0) C.1 C.2.1 dX10_worthBy_59 (by decide) ?_
          exact wGX10_worthBy_T_a22_a23_60 C hK hJ ih _ _ _ _ _ _ _ _ h hP hS (lv_sub hl [0, 1, 2, 3, 5] rfl)
        · rw [if_neg c52] at h
          refine lv_iconst (v := 1) C.1 C.2.1 dX10_worthBy_55 (by decide) ?_
          refine lv_goto (tgt := 60) C.1 C.2.1 dX10_worthBy_56 (by decide) ?_
          exact wGX10_worthBy_T_a22_a23_60 C hK hJ ih _ _ _ _ _ _ _ _ h hP hS (lv_sub hl [0, 1, 2, 3, 5] rfl)
set_option maxHeartbeats 4000000 in
set_option maxRecDepth 100000 in
theorem wX10_worthBy_T_a22_a23 {p : Program} {l : Launch} {e : Env} {s : State} {m : MethodId} {args : Array Value} {below : List Frame} {meth : Method} {c : Code} {D : va_G} {cy : Nat → ClassId} {ad st : Nat → Nat} (C : Cx RX10 cX10_worthBy 8 (some .int) wsX10_worthBy p s m args meth c) (hK : Ky D [(cy 0, .int), (cy 1, .long), (cy 2, .boolean), (cy 3, .byte), (cy 4, .object "HissHorn$Text")] st s) (hJ : JX ad st) (x0 : Nat) {u : SX} {r : Int32} {u' : SX} {H : Heap} {locs : List Loc} {ls : Array Slot} (h : fX10_worthBy_T_a22_a23 x0 u = some (r, u')) (hP : va_P D vwCl (VX cy ad st u) H) (hS : va_S (Ax (AX ad) s.heap.size) s.heap H locs) (hl : lv_has ls 8 [(0, .ref (ad (tA x0))), (1, .ref (ad 22)), (2, .ref (ad 23))]) : W p l e rmX10_worthBy_T_a22_a23 s m args below meth c H locs 0 0 (MQ below (Qi D (VX cy ad st) (AX ad) s.heap.size r u') args s 0 0 (Ax (AX ad) s.heap.size)) (F0 m 0 ls []) := by
  unfold fX10_worthBy_T_a22_a23 at h
  refine lv_iconst (v := 0) C.1 C.2.1 dX10_worthBy_0 (by decide) ?_
  refine lv_istore_n (lv' := [(3, .int 0), (0, .ref (ad (tA x0))), (1, .ref (ad 22)), (2, .ref (ad 23))]) C.1 C.2.1 dX10_worthBy_1 rfl hl (by decide) rfl (fun ls hl => ?_)
  replace hl := lv_sub (l' := [(0, .ref (ad (tA x0))), (1, .ref (ad 22)), (2, .ref (ad 23)), (3, .int 0)]) hl [1, 2, 3, 0] rfl
  refine lv_iconst (v := 0) C.1 C.2.1 dX10_worthBy_2 (by decide) ?_
  refine lv_istore (lv' := [(4, .int 0), (0, .ref (ad (tA x0))), (1, .ref (ad 22)), (2, .ref (ad 23)), (3, .int 0)]) C.1 C.2.1 dX10_worthBy_3 hl (by decide) rfl (fun ls hl => ?_)
  replace hl := lv_sub (l' := [(0, .ref (ad (tA x0))), (1, .ref (ad 22)), (2, .ref (ad 23)), (3, .int 0), (4, .int 0)]) hl [1, 2, 3, 4, 0] rfl
  refine lv_iconst (v := 0) C.1 C.2.1 dX10_worthBy_5 (by decide) ?_
  refine lv_istore (lv' := [(5, .int 0), (0, .ref (ad (tA x0))), (1, .ref (ad 22)), (2, .ref (ad 23)), (3, .int 0), (4, .int 0)]) C.1 C.2.1 dX10_worthBy_6 hl (by decide) rfl (fun ls hl => ?_)
  replace hl := lv_sub (l' := [(0, .ref (ad (tA x0))), (1, .ref (ad 22)), (2, .ref (ad 23)), (3, .int 0), (4, .int 0), (5, .int 0)]) hl [1, 2, 3, 4, 5, 0] rfl
  exact wLX10_worthBy_T_a22_a23_8 C hK hJ  5000 _ _ _ _ _ _ _ _ h hP hS hl
theorem metX10_worthBy_T_a22_a23 (l : Launch) (D : va_G) (cy : Nat → ClassId) (ad st : Nat → Nat) (hJ : JX ad st) (sz : Nat) (x0 : Nat) {u : SX} {r : Int32} {u' : SX} (h : fX10_worthBy_T_a22_a23 x0 u = some (r, u')) : Met l yX10_worthBy wsX10_worthBy rmX10_worthBy_T_a22_a23 (va_Pc [.ref (ad (tA x0)), .ref (ad 22), .ref (ad 23)] (Px D [(cy 0, .int), (cy 1, .long), (cy 2, .boolean), (cy 3, .byte), (cy 4, .object "HissHorn$Text")] st (VX cy ad st) sz u)) (Qi D (VX cy ad st) (AX ad) sz r u') 0 0 (Ax (AX ad) sz) := by
  refine Met.ofW (cc := cX10_worthBy) (maxL := 8) (ret := (some .int)) (by decide) rfl ?_
  intro p e s m args below meth c s₁ B hml hv
  obtain ⟨rfl, hsz, hP, hK⟩ := hv
  subst hsz
  have C : Cx RX10 cX10_worthBy 8 (some .int) wsX10_worthBy p s m _ meth c := ⟨B.exec, B.bytes, hml, B.returns, findClass_of_methodNamed B.named, atoms_spec (ws := wsX10_worthBy) B.pre, B.notSynchronized⟩
  have hl := lv_entry ([.ref (ad (tA x0)), .ref (ad 22), .ref (ad 23)]) (n := 8) (Nat.le_of_ble_eq_true rfl)
  rw [lg_entry_eq]
  exact wX10_worthBy_T_a22_a23 C hK hJ x0 h hP va_S.rf hl

/-- HissHorn$Shelf.ask(I)I of cell 5 -/
def rmX8_ask_5 : Room := { frames := 3, cells := 0, slots := 0, locals := 65 }
def GX8_ask_5_18  (u : SX) : Option (Int32 × SX) := (some (0, u))
theorem hX8_ask_5_X8 : ∀ w ∈ u_ws RX8 TX8 5, w ∈ wsX8_ask := fun w h => (List.mem_cons_of_mem _ (List.mem_append_left _ (List.mem_append_right _ h)))
theorem mX8_ask_5_1 : Cond.fieldLink RX8 23 "HissHorn$Shelf" "texts" "[LHissHorn$Text;" ∈ wsX8_ask := (List.mem_cons_of_mem _ (List.mem_append_left _ (List.mem_append_left _ (List.mem_append_left _ (List.mem_of_getElem? (i := 0) rfl)))))
theorem mX8_ask_5_2 : Cond.fieldLink RX8 33 "HissHorn$Shelf" "values" "[I" ∈ wsX8_ask := (List.mem_cons_of_mem _ (List.mem_append_left _ (List.mem_append_left _ (List.mem_append_left _ (List.mem_of_getElem? (i := 1) rfl)))))
theorem mX8_ask_5_3 : Cond.fieldLink RX8 11 "HissHorn$Shelf" "stack" "[I" ∈ wsX8_ask := (List.mem_cons_of_mem _ (List.mem_append_left _ (List.mem_append_left _ (List.mem_append_left _ (List.mem_of_getElem? (i := 2) rfl)))))
def GX8_ask_5_18a (y0 : Nat) (u : SX) : Option (Int32 × SX) := (gd (decide (y0 < tN u)) ((fX10_worthBy_T_a22_a23 y0  u).bind fun q => match q with | (r7, u8) => (some (r7, u8))))
def fX8_ask_5 (x1 : Int32) (u : SX) : Option (Int32 × SX) := ((fX8_has_5 x1 u).bind fun q => match q with | (r1, u2) => (if r1 = 0 then (GX8_ask_5_18 u2) else (gd (inb x1 6) (tcs (tQ u2 21 x1.toNatClampNeg) (tN u2) (GX8_ask_5_18 u2) (fun k5 => (GX8_ask_5_18a k5 u2))))))
set_option maxHeartbeats 4000000 in
set_option maxRecDepth 100000 in
theorem wGX8_ask_5_18 {p : Program} {l : Launch} {e : Env} {s : State} {m : MethodId} {args : Array Value} {below : List Frame} {meth : Method} {c : Code} {D : va_G} {cy : Nat → ClassId} {ad st : Nat → Nat} (C : Cx RX8 cX8_ask 3 (some .int) wsX8_ask p s m args meth c) (hK : Ky D [(cy 0, .int), (cy 1, .long), (cy 2, .boolean), (cy 3, .byte), (cy 4, .object "HissHorn$Text")] st s) (hJ : JX ad st) {r : Int32} {u' : SX}   (u : SX) (H : Heap) (locs : List Loc) (ls : Array Slot) (h : GX8_ask_5_18  u = some (r, u')) (hP : va_P D vwCl (VX cy ad st u) H) (hS : va_S (Ax (AX ad) s.heap.size) s.heap H locs) (hl : lv_has ls 3 [(0, .ref (ad 5))]) : W p l e rmX8_ask_5 s m args below meth c H locs 0 0 (MQ below (Qi D (VX cy ad st) (AX ad) s.heap.size r u') args s 0 0 (Ax (AX ad) s.heap.size)) (F0 m 18 ls [.null]) := by
  unfold GX8_ask_5_18 at h
  refine lv_astore_nN (lv' := [(2, .null), (0, .ref (ad 5))]) C.1 C.2.1 dX8_ask_18 rfl hl (by decide) rfl (fun ls hl => ?_)
  replace hl := lv_sub (l' := [(0, .ref (ad 5)), (2, .null)]) hl [1, 0] rfl
  refine lv_aload_nN C.1 C.2.1 dX8_ask_19 rfl (lv_at hl 1 rfl) ?_
  refine lv_ifnonnullN C.1 C.2.1 dX8_ask_20 ?_
  refine lv_iconst (v := 0) C.1 C.2.1 dX8_ask_23 (by decide) ?_
  refine lv_goto (tgt := 39) C.1 C.2.1 dX8_ask_24 (by decide) ?_
  cases h
  exact rt_i C hP hS dX8_ask_39
set_option maxHeartbeats 4000000 in
set_option maxRecDepth 100000 in
theorem wGX8_ask_5_18a {p : Program} {l : Launch} {e : Env} {s : State} {m : MethodId} {args : Array Value} {below : List Frame} {meth : Method} {c : Code} {D : va_G} {cy : Nat → ClassId} {ad st : Nat → Nat} (C : Cx RX8 cX8_ask 3 (some .int) wsX8_ask p s m args meth c) (hK : Ky D [(cy 0, .int), (cy 1, .long), (cy 2, .boolean), (cy 3, .byte), (cy 4, .object "HissHorn$Text")] st s) (hJ : JX ad st) {r : Int32} {u' : SX}   (y0 : Nat) (u : SX) (H : Heap) (locs : List Loc) (ls : Array Slot) (h : GX8_ask_5_18a y0 u = some (r, u')) (hP : va_P D vwCl (VX cy ad st u) H) (hS : va_S (Ax (AX ad) s.heap.size) s.heap H locs) (hl : lv_has ls 3 [(0, .ref (ad 5))]) : W p l e rmX8_ask_5 s m args below meth c H locs 0 0 (MQ below (Qi D (VX cy ad st) (AX ad) s.heap.size r u') args s 0 0 (Ax (AX ad) s.heap.size)) (F0 m 18 ls [.ref (ad (tA y0))]) := by
  unfold GX8_ask_5_18a at h
  refine lv_astore_n (lv' := [(2, .ref (ad (tA y0))), (0, .ref (ad 5))]) C.1 C.2.1 dX8_ask_18 rfl hl (by decide) rfl (fun ls hl => ?_)
  replace hl := lv_sub (l' := [(0, .ref (ad 5)), (2, .ref (ad (tA y0)))]) hl [1, 0] rfl
  refine lv_aload_n C.1 C.2.1 dX8_ask_19 rfl (lv_at hl 1 rfl) ?_
  refine lv_ifnonnull (tgt := 27) C.1 C.2.1 dX8_ask_20 (by decide) ?_
  refine lv_aload_n C.1 C.2.1 dX8_ask_27 rfl (lv_at hl 1 rfl) ?_
  refine lv_aload_n C.1 C.2.1 dX8_ask_28 rfl (lv_at hl 0 rfl) ?_
  refine gX_5_values C hX8_ask_5_X8 hK hP mX8_ask_5_2 dX8_ask_29 ?_
  refine lv_aload_n C.1 C.2.1 dX8_ask_32 rfl (lv_at hl 0 rfl) ?_
  refine gX_5_stack C hX8_ask_5_X8 hK hP mX8_ask_5_3 dX8_ask_33 ?_
  obtain ⟨hg6, h⟩ := gd_some h
  obtain ⟨⟨r7, u8⟩, hc9, h⟩ := bd_some h
  try dsimp only at h
  refine cg_i (As := [.ref (ad 22), .ref (ad 23)]) (rest := []) (AX_ge hJ) C hK hP hS (metX10_worthBy_T_a22_a23 l D cy ad st hJ _ y0  hc9) (cwV 2 C.2.2.2.2.2.1 gX8_ask_X10_worthBy rfl rfl rfl (by decide +kernel) ⟨(Nat.le_of_ble_eq_true rfl), (Nat.le_of_ble_eq_true rfl)⟩) (73 + 2 * y0) 10 rfl (VX_T (of_decide_eq_true hg6)) rfl hl.1 rfl (Nat.le_of_ble_eq_true rfl) dX8_ask_36 ⟨Nat.zero_le _, Nat.zero_le _⟩ (fun H locs hP hS => ?_)
  cases h
  exact rt_i C hP hS dX8_ask_39
set_option maxHeartbeats 4000000 in
set_option maxRecDepth 100000 in
theorem wX8_ask_5 {p : Program} {l : Launch} {e : Env} {s : State} {m : MethodId} {args : Array Value} {below : List Frame} {meth : Method} {c : Code} {D : va_G} {cy : Nat → ClassId} {ad st : Nat → Nat} (C : Cx RX8 cX8_ask 3 (some .int) wsX8_ask p s m args meth c) (hK : Ky D [(cy 0, .int), (cy 1, .long), (cy 2, .boolean), (cy 3, .byte), (cy 4, .object "HissHorn$Text")] st s) (hJ : JX ad st) (x1 : Int32) {u : SX} {r : Int32} {u' : SX} {H : Heap} {locs : List Loc} {ls : Array Slot} (h : fX8_ask_5 x1 u = some (r, u')) (hP : va_P D vwCl (VX cy ad st u) H) (hS : va_S (Ax (AX ad) s.heap.size) s.heap H locs) (hl : lv_has ls 3 [(0, .ref (ad 5)), (1, .int x1)]) : W p l e rmX8_ask_5 s m args below meth c H locs 0 0 (MQ below (Qi D (VX cy ad st) (AX ad) s.heap.size r u') args s 0 0 (Ax (AX ad) s.heap.size)) (F0 m 0 ls []) := by
  unfold fX8_ask_5 at h
  refine lv_aload_n C.1 C.2.1 dX8_ask_0 rfl (lv_at hl 0 rfl) ?_
  refine lv_iload_n C.1 C.2.1 dX8_ask_1 rfl (lv_at hl 1 rfl) ?_
  obtain ⟨⟨r1, u2⟩, hc3, h⟩ := bd_some h
  try dsimp only at h
  refine cg_i (As := [.int x1]) (rest := []) (AX_ge hJ) C hK hP hS (metX8_has_5 l D cy ad st hJ _ x1 hc3) (cwV 1 C.2.2.2.2.2.1 gX8_ask_X8_has rfl rfl rfl (by decide +kernel) ⟨(Nat.le_of_ble_eq_true rfl), (Nat.le_of_ble_eq_true rfl)⟩) 5 8 rfl rfl rfl hl.1 rfl (Nat.le_of_ble_eq_true rfl) dX8_ask_2 ⟨Nat.zero_le _, Nat.zero_le _⟩ (fun H locs hP hS => ?_)
  refine lv_if_eq (tgt := 17) C.1 C.2.1 dX8_ask_5 (by decide) (fun c5 => ?_) (fun c5 => ?_)
  · rw [if_pos c5] at h
    refine lv_null C.1 C.2.1 dX8_ask_17 ?_
    exact wGX8_ask_5_18 C hK hJ _ _ _ _ h hP hS (lv_sub hl [0] rfl)
  · rw [if_neg c5] at h
    refine lv_aload_n C.1 C.2.1 dX8_ask_8 rfl (lv_at hl 0 rfl) ?_
    refine gX_5_texts C hX8_ask_5_X8 hK hP mX8_ask_5_1 dX8_ask_9 ?_
    refine lv_iload_n C.1 C.2.1 dX8_ask_12 rfl (lv_at hl 1 rfl) ?_
    obtain ⟨hg4, h⟩ := gd_some h
    refine aX_21 C hK hP hg4 dX8_ask_13 (fun ht => ?_) (fun k5 ht => ?_)
    · replace h := tcs_n ht h
      refine lv_goto (tgt := 18) C.1 C.2.1 dX8_ask_14 (by decide) ?_
      exact wGX8_ask_5_18 C hK hJ _ _ _ _ h hP hS (lv_sub hl [0] rfl)
    · replace h := (tcs_s ht h).2
      refine lv_goto (tgt := 18) C.1 C.2.1 dX8_ask_14 (by decide) ?_
      exact wGX8_ask_5_18a C hK hJ _ _ _ _ _ h hP hS (lv_sub hl [0] rfl)
theorem metX8_ask_5 (l : Launch) (D : va_G) (cy : Nat → ClassId) (ad st : Nat → Nat) (hJ : JX ad st) (sz : Nat) (x1 : Int32) {u : SX} {r : Int32} {u' : SX} (h : fX8_ask_5 x1 u = some (r, u')) : Met l yX8_ask wsX8_ask rmX8_ask_5 (va_Pc [.ref (ad 5), .int x1] (Px D [(cy 0, .int), (cy 1, .long), (cy 2, .boolean), (cy 3, .byte), (cy 4, .object "HissHorn$Text")] st (VX cy ad st) sz u)) (Qi D (VX cy ad st) (AX ad) sz r u') 0 0 (Ax (AX ad) sz) := by
  refine Met.ofW (cc := cX8_ask) (maxL := 3) (ret := (some .int)) (by decide) rfl ?_
  intro p e s m args below meth c s₁ B hml hv
  obtain ⟨rfl, hsz, hP, hK⟩ := hv
  subst hsz
  have C : Cx RX8 cX8_ask 3 (some .int) wsX8_ask p s m _ meth c := ⟨B.exec, B.bytes, hml, B.returns, findClass_of_methodNamed B.named, atoms_spec (ws := wsX8_ask) B.pre, B.notSynchronized⟩
  have hl := lv_entry ([.ref (ad 5), .int x1]) (n := 3) (Nat.le_of_ble_eq_true rfl)
  rw [lg_entry_eq]
  exact wX8_ask_5 C hK hJ x1 h hP va_S.rf hl

set_option maxRecDepth 20000 in
theorem ggX11_say_X8_set : GoodIn wsX11_say wsX8_set := ggi (fun w h => List.mem_cons_of_mem _ (List.mem_append_left _ (List.mem_append_left _ (List.mem_append_left _ (List.mem_append_left _ (List.mem_append_left _ (List.mem_append_left _ (List.mem_append_left _ (List.mem_append_right _ (List.mem_append_left _ h)))))))))) gs_X8_set
set_option maxRecDepth 20000 in
theorem gX11_say_X8_set : GoodIn wsX11_say (wsV RX11 382 RX8 yX8_set wsX8_set) := goodIn_app (goodIn_of _ (by decide +kernel)) ggX11_say_X8_set
theorem zdX11_say_105 : (and (and (and (and (and (zk cX11_say 105 (.invokevirtual 382) 3) (zk cX11_say 108 (.aload_n 0) 1)) (and (zk cX11_say 109 (.getfield 43) 3) (zk cX11_say 112 (.iconst 3) 1))) (and (and (zk cX11_say 113 (.aload_n 0) 1) (zk cX11_say 114 (.getfield 83) 3)) (and (zk cX11_say 117 (.iload_n 2) 1) (zk cX11_say 118 (.invokevirtual 385) 3)))) (and (and (and (zk cX11_say 121 (.invokevirtual 382) 3) (zk cX11_say 124 (.aload_n 0) 1)) (and (zk cX11_say 125 (.getfield 43) 3) (zk cX11_say 128 (.iconst 4) 1))) (and (and (zk cX11_say 129 (.iload_n 2) 1) (zk cX11_say 130 (.invokevirtual 382) 3)) (and (zk cX11_say 133 (.aload_n 0) 1) (zk cX11_say 134 (.getfield 43) 3))))) (and (and (and (and (zk cX11_say 137 (.iload_n 1) 1) (zk cX11_say 138 (.invokevirtual 161) 3)) (and (zk cX11_say 141 (.ifCond .eq 5) 3) (zk cX11_say 146 (.iinc 2 1) 3))) (and (and (zk cX11_say 149 (.goto (-134)) 3) (zk cX11_say 144 (.iload_n 2) 1)) (and (zk cX11_say 145 (.ireturn) 1) (zk cX11_say 82 (.invokevirtual 382) 3)))) (and (and (and (zk cX11_say 85 (.aload_n 0) 1) (zk cX11_say 86 (.getfield 43) 3)) (and (zk cX11_say 89 (.iconst 2) 1) (zk cX11_say 90 (.iload_n 3) 1))) (and (and (zk cX11_say 91 (.ifCond .eq 13) 3) (zk cX11_say 104 (.iconst 0) 1)) (and (zk cX11_say 94 (.aload_n 0) 1) (zk cX11_say 95 (.getfield 67) 3)))))) = true := by decide +kernel
theorem dX11_say_105 : decode cX11_say 105 = .ok (.invokevirtual 382, 3) := zk_of (zk_l (zk_l (zk_l (zk_l (zk_l zdX11_say_105)))))
theorem dX11_say_108 : decode cX11_say 108 = .ok (.aload_n 0, 1) := zk_of (zk_r (zk_l (zk_l (zk_l (zk_l zdX11_say_105)))))
theorem dX11_say_109 : decode cX11_say 109 = .ok (.getfield 43, 3) := zk_of (zk_l (zk_r (zk_l (zk_l (zk_l zdX11_say_105)))))
theorem dX11_say_112 : decode cX11_say 112 = .ok (.iconst 3, 1) := zk_of (zk_r (zk_r (zk_l (zk_l (zk_l zdX11_say_105)))))
theorem dX11_say_113 : decode cX11_say 113 = .ok (.aload_n 0, 1) := zk_of (zk_l (zk_l (zk_r (zk_l (zk_l zdX11_say_105)))))
theorem dX11_say_114 : decode cX11_say 114 = .ok (.getfield 83, 3) := zk_of (zk_r (zk_l (zk_r (zk_l (zk_l zdX11_say_105)))))
theorem dX11_say_117 : decode cX11_say 117 = .ok (.iload_n 2, 1) := zk_of (zk_l (zk_r (zk_r (zk_l (zk_l zdX11_say_105)))))
theorem dX11_say_118 : decode cX11_say 118 = .ok (.invokevirtual 385, 3) := zk_of (zk_r (zk_r (zk_r (zk_l (zk_l zdX11_say_105)))))
theorem dX11_say_121 : decode cX11_say 121 = .ok (.invokevirtual 382, 3) := zk_of (zk_l (zk_l (zk_l (zk_r (zk_l zdX11_say_105)))))
theorem dX11_say_124 : decode cX11_say 124 = .ok (.aload_n 0, 1) := zk_of (zk_r (zk_l (zk_l (zk_r (zk_l zdX11_say_105)))))
theorem dX11_say_125 : decode cX11_say 125 = .ok (.getfield 43, 3) := zk_of (zk_l (zk_r (zk_l (zk_r (zk_l zdX11_say_105)))))
theorem dX11_say_128 : decode cX11_say 128 = .ok (.iconst 4, 1) := zk_of (zk_r (zk_r (zk_l (zk_r (zk_l zdX11_say_105)))))
theorem dX11_say_129 : decode cX11_say 129 = .ok (.iload_n 2, 1) := zk_of (zk_l (zk_l (zk_r (zk_r (zk_l zdX11_say_105)))))
theorem dX11_say_130 : decode cX11_say 130 = .ok (.invokevirtual 382, 3) := zk_of (zk_r (zk_l (zk_r (zk_r (zk_l zdX11_say_105)))))
theorem dX11_say_133 : decode cX11_say 133 = .ok (.aload_n 0, 1) := zk_of (zk_l (zk_r (zk_r (zk_r (zk_l zdX11_say_105)))))
theorem dX11_say_134 : decode cX11_say 134 = .ok (.getfield 43, 3) := zk_of (zk_r (zk_r (zk_r (zk_r (zk_l zdX11_say_105)))))
theorem dX11_say_137 : decode cX11_say 137 = .ok (.iload_n 1, 1) := zk_of (zk_l (zk_l (zk_l (zk_l (zk_r zdX11_say_105)))))
theorem dX11_say_138 : decode cX11_say 138 = .ok (.invokevirtual 161, 3) := zk_of (zk_r (zk_l (zk_l (zk_l (zk_r zdX11_say_105)))))
theorem dX11_say_141 : decode cX11_say 141 = .ok (.ifCond .eq 5, 3) := zk_of (zk_l (zk_r (zk_l (zk_l (zk_r zdX11_say_105)))))
theorem dX11_say_146 : decode cX11_say 146 = .ok (.iinc 2 1, 3) := zk_of (zk_r (zk_r (zk_l (zk_l (zk_r zdX11_say_105)))))
theorem dX11_say_149 : decode cX11_say 149 = .ok (.goto (-134), 3) := zk_of (zk_l (zk_l (zk_r (zk_l (zk_r zdX11_say_105)))))
theorem dX11_say_144 : decode cX11_say 144 = .ok (.iload_n 2, 1) := zk_of (zk_r (zk_l (zk_r (zk_l (zk_r zdX11_say_105)))))
theorem dX11_say_145 : decode cX11_say 145 = .ok (.ireturn, 1) := zk_of (zk_l (zk_r (zk_r (zk_l (zk_r zdX11_say_105)))))
theorem dX11_say_82 : decode cX11_say 82 = .ok (.invokevirtual 382, 3) := zk_of (zk_r (zk_r (zk_r (zk_l (zk_r zdX11_say_105)))))
theorem dX11_say_85 : decode cX11_say 85 = .ok (.aload_n 0, 1) := zk_of (zk_l (zk_l (zk_l (zk_r (zk_r zdX11_say_105)))))
theorem dX11_say_86 : decode cX11_say 86 = .ok (.getfield 43, 3) := zk_of (zk_r (zk_l (zk_l (zk_r (zk_r zdX11_say_105)))))
theorem dX11_say_89 : decode cX11_say 89 = .ok (.iconst 2, 1) := zk_of (zk_l (zk_r (zk_l (zk_r (zk_r zdX11_say_105)))))
theorem dX11_say_90 : decode cX11_say 90 = .ok (.iload_n 3, 1) := zk_of (zk_r (zk_r (zk_l (zk_r (zk_r zdX11_say_105)))))
theorem dX11_say_91 : decode cX11_say 91 = .ok (.ifCond .eq 13, 3) := zk_of (zk_l (zk_l (zk_r (zk_r (zk_r zdX11_say_105)))))
theorem dX11_say_104 : decode cX11_say 104 = .ok (.iconst 0, 1) := zk_of (zk_r (zk_l (zk_r (zk_r (zk_r zdX11_say_105)))))
theorem dX11_say_94 : decode cX11_say 94 = .ok (.aload_n 0, 1) := zk_of (zk_l (zk_r (zk_r (zk_r (zk_r zdX11_say_105)))))
theorem dX11_say_95 : decode cX11_say 95 = .ok (.getfield 67, 3) := zk_of (zk_r (zk_r (zk_r (zk_r (zk_r zdX11_say_105)))))
set_option maxRecDepth 20000 in
theorem ggX11_say_X3_doneUpTo : GoodIn wsX11_say wsX3_doneUpTo := ggi (fun w h => List.mem_cons_of_mem _ (List.mem_append_left _ (List.mem_append_left _ (List.mem_append_left _ (List.mem_append_left _ (List.mem_append_left _ (List.mem_append_left _ (List.mem_append_left _ (List.mem_append_right _ (List.mem_append_right _ (List.mem_append_left _ h))))))))))) gs_X3_doneUpTo
set_option maxRecDepth 20000 in
theorem gX11_say_X3_doneUpTo : GoodIn wsX11_say (wsV RX11 385 RX3 yX3_doneUpTo wsX3_doneUpTo) := goodIn_app (goodIn_of _ (by decide +kernel)) ggX11_say_X3_doneUpTo
set_option maxRecDepth 20000 in
theorem ggX11_say_X8_ask : GoodIn wsX11_say wsX8_ask := ggi (fun w h => List.mem_cons_of_mem _ (List.mem_append_left _ (List.mem_append_left _ (List.mem_append_left _ (List.mem_append_left _ (List.mem_append_left _ (List.mem_append_left _ (List.mem_append_left _ (List.mem_append_right _ (List.mem_append_right _ (List.mem_append_right _ (List.mem_append_left _ h)))))))))))) gs_X8_ask
set_option maxRecDepth 20000 in
theorem gX11_say_X8_ask : GoodIn wsX11_say (wsV RX11 161 RX8 yX8_ask wsX8_ask) := goodIn_app (goodIn_of _ (by decide +kernel)) ggX11_say_X8_ask
theorem zdX11_say_98 : (and (and (and (and (and (zk cX11_say 98 (.getfield 227) 3) (zk cX11_say 101 (.goto 4) 3)) (and (zk cX11_say 15 (.iload_n 2) 1) (zk cX11_say 16 (.aload_n 0) 1))) (and (and (zk cX11_say 17 (.getfield 103) 3) (zk cX11_say 20 (.if_icmp .gt 132) 3)) (and (zk cX11_say 152 (.iconst (-1)) 1) (zk cX11_say 153 (.ireturn) 1)))) (and (and (and (zk cX11_say 23 (.aload_n 0) 1) (zk cX11_say 24 (.getfield 58) 3)) (and (zk cX11_say 27 (.iload_n 2) 1) (zk cX11_say 28 (.invokevirtual 214) 3))) (and (and (zk cX11_say 31 (.aload_n 0) 1) (zk cX11_say 32 (.getfield 67) 3)) (and (zk cX11_say 35 (.invokevirtual 224) 3) (zk cX11_say 38 (.istore_n 3) 1))))) (and (and (and (and (zk cX11_say 39 (.aload_n 0) 1) (zk cX11_say 40 (.getfield 43) 3)) (and (zk cX11_say 43 (.iconst 0) 1) (zk cX11_say 44 (.aload_n 0) 1))) (and (and (zk cX11_say 45 (.getfield 58) 3) (zk cX11_say 48 (.getfield 379) 3)) (and (zk cX11_say 51 (.invokevirtual 382) 3) (zk cX11_say 54 (.aload_n 0) 1)))) (and (and (and (zk cX11_say 55 (.getfield 43) 3) (zk cX11_say 58 (.iconst 1) 1)) (and (zk cX11_say 59 (.iload_n 3) 1) (zk cX11_say 60 (.ifCond .eq 21) 3))) (and (and (zk cX11_say 81 (.iconst 0) 1) (zk cX11_say 63 (.aload_n 0) 1)) (and (zk cX11_say 64 (.getfield 67) 3) (zk cX11_say 67 (.getfield 230) 3)))))) = true := by decide +kernel
theorem dX11_say_98 : decode cX11_say 98 = .ok (.getfield 227, 3) := zk_of (zk_l (zk_l (zk_l (zk_l (zk_l zdX11_say_98)))))
theorem dX11_say_101 : decode cX11_say 101 = .ok (.goto 4, 3) := zk_of (zk_r (zk_l (zk_l (zk_l (zk_l zdX11_say_98)))))
theorem dX11_say_15 : decode cX11_say 15 = .ok (.iload_n 2, 1) := zk_of (zk_l (zk_r (zk_l (zk_l (zk_l zdX11_say_98)))))
theorem dX11_say_16 : decode cX11_say 16 = .ok (.aload_n 0, 1) := zk_of (zk_r (zk_r (zk_l (zk_l (zk_l zdX11_say_98)))))
theorem dX11_say_17 : decode cX11_say 17 = .ok (.getfield 103, 3) := zk_of (zk_l (zk_l (zk_r (zk_l (zk_l zdX11_say_98)))))
theorem dX11_say_20 : decode cX11_say 20 = .ok (.if_icmp .gt 132, 3) := zk_of (zk_r (zk_l (zk_r (zk_l (zk_l zdX11_say_98)))))
theorem dX11_say_152 : decode cX11_say 152 = .ok (.iconst (-1), 1) := zk_of (zk_l (zk_r (zk_r (zk_l (zk_l zdX11_say_98)))))
theorem dX11_say_153 : decode cX11_say 153 = .ok (.ireturn, 1) := zk_of (zk_r (zk_r (zk_r (zk_l (zk_l zdX11_say_98)))))
theorem dX11_say_23 : decode cX11_say 23 = .ok (.aload_n 0, 1) := zk_of (zk_l (zk_l (zk_l (zk_r (zk_l zdX11_say_98)))))
theorem dX11_say_24 : decode cX11_say 24 = .ok (.getfield 58, 3) := zk_of (zk_r (zk_l (zk_l (zk_r (zk_l zdX11_say_98)))))
theorem dX11_say_27 : decode cX11_say 27 = .ok (.iload_n 2, 1) := zk_of (zk_l (zk_r (zk_l (zk_r (zk_l zdX11_say_98)))))
theorem dX11_say_28 : decode cX11_say 28 = .ok (.invokevirtual 214, 3) := zk_of (zk_r (zk_r (zk_l (zk_r (zk_l zdX11_say_98)))))
theorem dX11_say_31 : decode cX11_say 31 = .ok (.aload_n 0, 1) := zk_of (zk_l (zk_l (zk_r (zk_r (zk_l zdX11_say_98)))))
theorem dX11_say_32 : decode cX11_say 32 = .ok (.getfield 67, 3) := zk_of (zk_r (zk_l (zk_r (zk_r (zk_l zdX11_say_98)))))
theorem dX11_say_35 : decode cX11_say 35 = .ok (.invokevirtual 224, 3) := zk_of (zk_l (zk_r (zk_r (zk_r (zk_l zdX11_say_98)))))
theorem dX11_say_38 : decode cX11_say 38 = .ok (.istore_n 3, 1) := zk_of (zk_r (zk_r (zk_r (zk_r (zk_l zdX11_say_98)))))
theorem dX11_say_39 : decode cX11_say 39 = .ok (.aload_n 0, 1) := zk_of (zk_l (zk_l (zk_l (zk_l (zk_r zdX11_say_98)))))
theorem dX11_say_40 : decode cX11_say 40 = .ok (.getfield 43, 3) := zk_of (zk_r (zk_l (zk_l (zk_l (zk_r zdX11_say_98)))))
theorem dX11_say_43 : decode cX11_say 43 = .ok (.iconst 0, 1) := zk_of (zk_l (zk_r (zk_l (zk_l (zk_r zdX11_say_98)))))
theorem dX11_say_44 : decode cX11_say 44 = .ok (.aload_n 0, 1) := zk_of (zk_r (zk_r (zk_l (zk_l (zk_r zdX11_say_98)))))
theorem dX11_say_45 : decode cX11_say 45 = .ok (.getfield 58, 3) := zk_of (zk_l (zk_l (zk_r (zk_l (zk_r zdX11_say_98)))))
theorem dX11_say_48 : decode cX11_say 48 = .ok (.getfield 379, 3) := zk_of (zk_r (zk_l (zk_r (zk_l (zk_r zdX11_say_98)))))
theorem dX11_say_51 : decode cX11_say 51 = .ok (.invokevirtual 382, 3) := zk_of (zk_l (zk_r (zk_r (zk_l (zk_r zdX11_say_98)))))
theorem dX11_say_54 : decode cX11_say 54 = .ok (.aload_n 0, 1) := zk_of (zk_r (zk_r (zk_r (zk_l (zk_r zdX11_say_98)))))
theorem dX11_say_55 : decode cX11_say 55 = .ok (.getfield 43, 3) := zk_of (zk_l (zk_l (zk_l (zk_r (zk_r zdX11_say_98)))))
theorem dX11_say_58 : decode cX11_say 58 = .ok (.iconst 1, 1) := zk_of (zk_r (zk_l (zk_l (zk_r (zk_r zdX11_say_98)))))
theorem dX11_say_59 : decode cX11_say 59 = .ok (.iload_n 3, 1) := zk_of (zk_l (zk_r (zk_l (zk_r (zk_r zdX11_say_98)))))
theorem dX11_say_60 : decode cX11_say 60 = .ok (.ifCond .eq 21, 3) := zk_of (zk_r (zk_r (zk_l (zk_r (zk_r zdX11_say_98)))))
theorem dX11_say_81 : decode cX11_say 81 = .ok (.iconst 0, 1) := zk_of (zk_l (zk_l (zk_r (zk_r (zk_r zdX11_say_98)))))
theorem dX11_say_63 : decode cX11_say 63 = .ok (.aload_n 0, 1) := zk_of (zk_r (zk_l (zk_r (zk_r (zk_r zdX11_say_98)))))
theorem dX11_say_64 : decode cX11_say 64 = .ok (.getfield 67, 3) := zk_of (zk_l (zk_r (zk_r (zk_r (zk_r zdX11_say_98)))))
theorem dX11_say_67 : decode cX11_say 67 = .ok (.getfield 230, 3) := zk_of (zk_r (zk_r (zk_r (zk_r (zk_r zdX11_say_98)))))
set_option maxRecDepth 20000 in
theorem ggX11_say_X7_recall : GoodIn wsX11_say wsX7_recall := ggi (fun w h => List.mem_cons_of_mem _ (List.mem_append_left _ (List.mem_append_left _ (List.mem_append_left _ (List.mem_append_left _ (List.mem_append_left _ (List.mem_append_left _ (List.mem_append_left _ (List.mem_append_right _ (List.mem_append_right _ (List.mem_append_right _ (List.mem_append_right _ (List.mem_append_left _ h))))))))))))) gs_X7_recall
set_option maxRecDepth 20000 in
theorem gX11_say_X7_recall : GoodIn wsX11_say (wsV RX11 214 RX7 yX7_recall wsX7_recall) := goodIn_app (goodIn_of _ (by decide +kernel)) ggX11_say_X7_recall
set_option maxRecDepth 20000 in
theorem ggX11_say_X1_compare : GoodIn wsX11_say wsX1_compare := ggi (fun w h => List.mem_cons_of_mem _ (List.mem_append_left _ (List.mem_append_left _ (List.mem_append_left _ (List.mem_append_left _ (List.mem_append_left _ (List.mem_append_left _ (List.mem_append_left _ (List.mem_append_right _ (List.mem_append_right _ (List.mem_append_right _ (List.mem_append_right _ (List.mem_append_right _ (List.mem_append_left _ h)))))))))))))) gs_X1_compare
set_option maxRecDepth 20000 in
theorem gX11_say_X1_compare : GoodIn wsX11_say (wsV RX11 224 RX1 yX1_compare wsX1_compare) := goodIn_app (goodIn_of _ (by decide +kernel)) ggX11_say_X1_compare
theorem zdX11_say_70 : (and (and (and (and (zk cX11_say 70 (.aload_n 0) 1) (zk cX11_say 71 (.getfield 67) 3)) (and (zk cX11_say 74 (.getfield 227) 3) (zk cX11_say 77 (.isub) 1))) (and (and (zk cX11_say 78 (.goto 4) 3) (zk cX11_say 0 (.aload_n 0) 1)) (zk cX11_say 1 (.getfield 43) 3))) (and (and (and (zk cX11_say 4 (.iload_n 1) 1) (zk cX11_say 5 (.invokevirtual 146) 3)) (and (zk cX11_say 8 (.ifCond .ne 5) 3) (zk cX11_say 13 (.iconst 0) 1))) (and (and (zk cX11_say 14 (.istore_n 2) 1) (zk cX11_say 11 (.iconst (-1)) 1)) (zk cX11_say 12 (.ireturn) 1)))) = true := by decide +kernel
theorem dX11_say_70 : decode cX11_say 70 = .ok (.aload_n 0, 1) := zk_of (zk_l (zk_l (zk_l (zk_l zdX11_say_70))))
theorem dX11_say_71 : decode cX11_say 71 = .ok (.getfield 67, 3) := zk_of (zk_r (zk_l (zk_l (zk_l zdX11_say_70))))
theorem dX11_say_74 : decode cX11_say 74 = .ok (.getfield 227, 3) := zk_of (zk_l (zk_r (zk_l (zk_l zdX11_say_70))))
theorem dX11_say_77 : decode cX11_say 77 = .ok (.isub, 1) := zk_of (zk_r (zk_r (zk_l (zk_l zdX11_say_70))))
theorem dX11_say_78 : decode cX11_say 78 = .ok (.goto 4, 3) := zk_of (zk_l (zk_l (zk_r (zk_l zdX11_say_70))))
theorem dX11_say_0 : decode cX11_say 0 = .ok (.aload_n 0, 1) := zk_of (zk_r (zk_l (zk_r (zk_l zdX11_say_70))))
theorem dX11_say_1 : decode cX11_say 1 = .ok (.getfield 43, 3) := zk_of (zk_r (zk_r (zk_l zdX11_say_70)))
theorem dX11_say_4 : decode cX11_say 4 = .ok (.iload_n 1, 1) := zk_of (zk_l (zk_l (zk_l (zk_r zdX11_say_70))))
theorem dX11_say_5 : decode cX11_say 5 = .ok (.invokevirtual 146, 3) := zk_of (zk_r (zk_l (zk_l (zk_r zdX11_say_70))))
theorem dX11_say_8 : decode cX11_say 8 = .ok (.ifCond .ne 5, 3) := zk_of (zk_l (zk_r (zk_l (zk_r zdX11_say_70))))
theorem dX11_say_13 : decode cX11_say 13 = .ok (.iconst 0, 1) := zk_of (zk_r (zk_r (zk_l (zk_r zdX11_say_70))))
theorem dX11_say_14 : decode cX11_say 14 = .ok (.istore_n 2, 1) := zk_of (zk_l (zk_l (zk_r (zk_r zdX11_say_70))))
theorem dX11_say_11 : decode cX11_say 11 = .ok (.iconst (-1), 1) := zk_of (zk_r (zk_l (zk_r (zk_r zdX11_say_70))))
theorem dX11_say_12 : decode cX11_say 12 = .ok (.ireturn, 1) := zk_of (zk_r (zk_r (zk_r zdX11_say_70)))
set_option maxRecDepth 20000 in
theorem ggX11_say_X8_has : GoodIn wsX11_say wsX8_has := ggi (fun w h => List.mem_cons_of_mem _ (List.mem_append_left _ (List.mem_append_left _ (List.mem_append_left _ (List.mem_append_left _ (List.mem_append_left _ (List.mem_append_left _ (List.mem_append_left _ (List.mem_append_right _ (List.mem_append_right _ (List.mem_append_right _ (List.mem_append_right _ (List.mem_append_right _ (List.mem_append_right _ h)))))))))))))) gs_X8_has
set_option maxRecDepth 20000 in
theorem gX11_say_X8_has : GoodIn wsX11_say (wsV RX11 146 RX8 yX8_has wsX8_has) := goodIn_app (goodIn_of _ (by decide +kernel)) ggX11_say_X8_has
/-- HissHorn.say(I)I of cell 0 -/
def rmX11_say_0 : Room := { frames := 7, cells := 0, slots := 0, locals := 162 }
theorem hX11_say_0_X11 : ∀ w ∈ u_ws RX11 TX11 13, w ∈ wsX11_say := fun w h => (List.mem_cons_of_mem _ (List.mem_append_left _ (List.mem_append_left _ (List.mem_append_left _ (List.mem_append_left _ (List.mem_append_left _ (List.mem_append_left _ (List.mem_append_right _ h))))))))
theorem mX11_say_0_1 : Cond.fieldLink RX11 43 "HissHorn" "rules" "LHissHorn$Shelf;" ∈ wsX11_say := (List.mem_cons_of_mem _ (List.mem_append_left _ (List.mem_append_left _ (List.mem_append_left _ (List.mem_append_left _ (List.mem_append_left _ (List.mem_append_left _ (List.mem_append_left _ (List.mem_append_left _ (List.mem_of_getElem? (i := 22) rfl))))))))))
theorem mX11_say_0_2 : Cond.fieldLink RX11 103 "HissHorn" "now" "I" ∈ wsX11_say := (List.mem_cons_of_mem _ (List.mem_append_left _ (List.mem_append_left _ (List.mem_append_left _ (List.mem_append_left _ (List.mem_append_left _ (List.mem_append_left _ (List.mem_append_left _ (List.mem_append_left _ (List.mem_of_getElem? (i := 23) rfl))))))))))
theorem mX11_say_0_3 : Cond.fieldLink RX11 58 "HissHorn" "readings" "LHissHorn$Readings;" ∈ wsX11_say := (List.mem_cons_of_mem _ (List.mem_append_left _ (List.mem_append_left _ (List.mem_append_left _ (List.mem_append_left _ (List.mem_append_left _ (List.mem_append_left _ (List.mem_append_left _ (List.mem_append_left _ (List.mem_of_getElem? (i := 24) rfl))))))))))
theorem mX11_say_0_4 : Cond.fieldLink RX11 67 "HissHorn" "findings" "LHissHorn$Findings;" ∈ wsX11_say := (List.mem_cons_of_mem _ (List.mem_append_left _ (List.mem_append_left _ (List.mem_append_left _ (List.mem_append_left _ (List.mem_append_left _ (List.mem_append_left _ (List.mem_append_left _ (List.mem_append_left _ (List.mem_of_getElem? (i := 25) rfl))))))))))
theorem hX11_say_0_X7 : ∀ w ∈ u_ws RX7 TX7 12, w ∈ wsX11_say := fun w h => (List.mem_cons_of_mem _ (List.mem_append_left _ (List.mem_append_left _ (List.mem_append_left _ (List.mem_append_left _ (List.mem_append_left _ (List.mem_append_right _ h)))))))
theorem mX11_say_0_6 : Cond.fieldLink RX11 379 "HissHorn$Readings" "known" "I" ∈ wsX11_say := (List.mem_cons_of_mem _ (List.mem_append_left _ (List.mem_append_left _ (List.mem_append_left _ (List.mem_append_left _ (List.mem_append_left _ (List.mem_append_left _ (List.mem_append_left _ (List.mem_append_left _ (List.mem_of_getElem? (i := 26) rfl))))))))))
theorem mX11_say_0_7 : Cond.fieldLink RX11 83 "HissHorn" "looks" "LHissHorn$Looks;" ∈ wsX11_say := (List.mem_cons_of_mem _ (List.mem_append_left _ (List.mem_append_left _ (List.mem_append_left _ (List.mem_append_left _ (List.mem_append_left _ (List.mem_append_left _ (List.mem_append_left _ (List.mem_append_left _ (List.mem_of_getElem? (i := 27) rfl))))))))))
def GX11_say_0_105 (k15 : Int32 → Int32 → SX → Option (Int32 × SX)) (z1 : Int32) (z2 : Int32) (y0 : Int32) (y1 : Int32) (u : SX) : Option (Int32 × SX) := ((fX8_set_5 y1 y0 u).bind fun q => match q with | (r16, u17) => ((fX3_doneUpTo_10 z2 u17).bind fun q => match q with | (r19, u20) => ((fX8_set_5 3 r19 u20).bind fun q => match q with | (r22, u23) => ((fX8_set_5 4 z2 u23).bind fun q => match q with | (r25, u26) => ((fX8_ask_5 z1 u26).bind fun q => match q with | (r28, u29) => (if r28 = 0 then (k15 z1 (z2 + 1) u29) else (some (z2, u29))))))))
theorem hX11_say_0_X1 : ∀ w ∈ u_ws RX1 TX1 13, w ∈ wsX11_say := fun w h => (List.mem_cons_of_mem _ (List.mem_append_left _ (List.mem_append_left _ (List.mem_append_left _ (List.mem_append_left _ (List.mem_append_right _ h))))))
theorem mX11_say_0_9 : Cond.fieldLink RX11 227 "HissHorn$Findings" "alikeFrom" "I" ∈ wsX11_say := (List.mem_cons_of_mem _ (List.mem_append_left _ (List.mem_append_left _ (List.mem_append_left _ (List.mem_append_left _ (List.mem_append_left _ (List.mem_append_left _ (List.mem_append_left _ (List.mem_append_left _ (List.mem_of_getElem? (i := 28) rfl))))))))))
def GX11_say_0_82 (k15 : Int32 → Int32 → SX → Option (Int32 × SX)) (z1 : Int32) (z2 : Int32) (z3 : Int32) (y0 : Int32) (y1 : Int32) (u : SX) : Option (Int32 × SX) := ((fX8_set_5 y1 y0 u).bind fun q => match q with | (r13, u14) => (if z3 = 0 then (GX11_say_0_105 k15 z1 z2 0 2 u14) else (GX11_say_0_105 k15 z1 z2 (u14.1 17) 2 u14)))
theorem mX11_say_0_10 : Cond.fieldLink RX11 230 "HissHorn$Findings" "alikeTo" "I" ∈ wsX11_say := (List.mem_cons_of_mem _ (List.mem_append_left _ (List.mem_append_left _ (List.mem_append_left _ (List.mem_append_left _ (List.mem_append_left _ (List.mem_append_left _ (List.mem_append_left _ (List.mem_append_left _ (List.mem_of_getElem? (i := 29) rfl))))))))))
def LX11_say_0_15  : Nat → Int32 → Int32 → SX → Option (Int32 × SX)
  | 0, _, _, _ => none
  | n + 1, z1, z2, u => (if (u.1 0) < z2 then (some ((-1), u)) else ((fX7_recall_7 z2 u).bind fun q => match q with | (r4, u5) => ((fX1_compare_8  u5).bind fun q => match q with | (r7, u8) => ((fX8_set_5 0 (u8.1 14) u8).bind fun q => match q with | (r10, u11) => (if r7 = 0 then (GX11_say_0_82 (LX11_say_0_15 n) z1 z2 r7 0 1 u11) else (GX11_say_0_82 (LX11_say_0_15 n) z1 z2 r7 ((u11.1 18) - (u11.1 17)) 1 u11))))))
def fX11_say_0 (x1 : Int32) (u : SX) : Option (Int32 × SX) := ((fX8_has_5 x1 u).bind fun q => match q with | (r1, u2) => (if r1 = 0 then (some ((-1), u2)) else (LX11_say_0_15  5000 x1 0 u2)))
set_option maxHeartbeats 4000000 in
set_option maxRecDepth 100000 in
theorem wGX11_say_0_105 {p : Program} {l : Launch} {e : Env} {s : State} {m : MethodId} {args : Array Value} {below : List Frame} {meth : Method} {c : Code} {D : va_G} {cy : Nat → ClassId} {ad st : Nat → Nat} (C : Cx RX11 cX11_say 4 (some .int) wsX11_say p s m args meth c) (hK : Ky D [(cy 0, .int), (cy 1, .long), (cy 2, .boolean), (cy 3, .byte), (cy 4, .object "HissHorn$Text")] st s) (hJ : JX ad st) {r : Int32} {u' : SX} {k15 : Int32 → Int32 → SX → Option (Int32 × SX)} (hk15 : ∀ (z1 : Int32) (z2 : Int32) (u : SX) (H : Heap) (locs : List Loc) (ls : Array Slot), k15 z1 z2 u = some (r, u') → va_P D vwCl (VX cy ad st u) H → va_S (Ax (AX ad) s.heap.size) s.heap H locs → lv_has ls 4 [(0, .ref (ad 0)), (1, .int z1), (2, .int z2)] → W p l e rmX11_say_0 s m args below meth c H locs 0 0 (MQ below (Qi D (VX cy ad st) (AX ad) s.heap.size r u') args s 0 0 (Ax (AX ad) s.heap.size)) (F0 m 15 ls [])) (z1 : Int32) (z2 : Int32) (y0 : Int32) (y1 : Int32) (u : SX) (H : Heap) (locs : List Loc) (ls : Array Slot) (h : GX11_say_0_105 k15 z1 z2 y0 y1 u = some (r, u')) (hP : va_P D vwCl (VX cy ad st u) H) (hS : va_S (Ax (AX ad) s.heap.size) s.heap H locs) (hl : lv_has ls 4 [(0, .ref (ad 0)), (1, .int z1), (2, .int z2)]) : W p l e rmX11_say_0 s m args below meth c H locs 0 0 (MQ below (Qi D (VX cy ad st) (AX ad) s.heap.size r u') args s 0 0 (Ax (AX ad) s.heap.size)) (F0 m 105 ls [.int y0, .int y1, .ref (ad 5)]) := by
  unfold GX11_say_0_105 at h
  obtain ⟨⟨r16, u17⟩, hc18, h⟩ := bd_some h
  try dsimp only at h
  refine cg_v (As := [.int y1, .int y0]) (rest := []) (AX_ge hJ) C hK hP hS (metX8_set_5 l D cy ad st hJ _ y1 y0 hc18) (cwV 2 C.2.2.2.2.2.1 gX11_say_X8_set rfl rfl rfl (by decide +kernel) ⟨(Nat.le_of_ble_eq_true rfl), (Nat.le_of_ble_eq_true rfl)⟩) 5 8 rfl rfl rfl hl.1 rfl (Nat.le_of_ble_eq_true rfl) dX11_say_105 ⟨Nat.zero_le _, Nat.zero_le _⟩ (fun H locs hP hS => ?_)
  refine lv_aload_n C.1 C.2.1 dX11_say_108 rfl (lv_at hl 0 rfl) ?_
  refine gX_0_rules C hX11_say_0_X11 hK hP mX11_say_0_1 dX11_say_109 ?_
  refine lv_iconst (v := 3) C.1 C.2.1 dX11_say_112 (by decide) ?_
  refine lv_aload_n C.1 C.2.1 dX11_say_113 rfl (lv_at hl 0 rfl) ?_
  refine gX_0_looks C hX11_say_0_X11 hK hP mX11_say_0_7 dX11_say_114 ?_
  refine lv_iload_n C.1 C.2.1 dX11_say_117 rfl (lv_at hl 2 rfl) ?_
  obtain ⟨⟨r19, u20⟩, hc21, h⟩ := bd_some h
  try dsimp only at h
  refine cg_i (As := [.int z2]) (rest := [.int 3, .ref (ad 5)]) (AX_ge hJ) C hK hP hS (metX3_doneUpTo_10 l D cy ad st hJ _ z2 hc21) (cwV 1 C.2.2.2.2.2.1 gX11_say_X3_doneUpTo rfl rfl rfl (by decide +kernel) ⟨(Nat.le_of_ble_eq_true rfl), (Nat.le_of_ble_eq_true rfl)⟩) 10 3 rfl rfl rfl hl.1 rfl (Nat.le_of_ble_eq_true rfl) dX11_say_118 ⟨Nat.zero_le _, Nat.zero_le _⟩ (fun H locs hP hS => ?_)
  obtain ⟨⟨r22, u23⟩, hc24, h⟩ := bd_some h
  try dsimp only at h
  refine cg_v (As := [.int 3, .int r19]) (rest := []) (AX_ge hJ) C hK hP hS (metX8_set_5 l D cy ad st hJ _ 3 r19 hc24) (cwV 2 C.2.2.2.2.2.1 gX11_say_X8_set rfl rfl rfl (by decide +kernel) ⟨(Nat.le_of_ble_eq_true rfl), (Nat.le_of_ble_eq_true rfl)⟩) 5 8 rfl rfl rfl hl.1 rfl (Nat.le_of_ble_eq_true rfl) dX11_say_121 ⟨Nat.zero_le _, Nat.zero_le _⟩ (fun H locs hP hS => ?_)
  refine lv_aload_n C.1 C.2.1 dX11_say_124 rfl (lv_at hl 0 rfl) ?_
  refine gX_0_rules C hX11_say_0_X11 hK hP mX11_say_0_1 dX11_say_125 ?_
  refine lv_iconst (v := 4) C.1 C.2.1 dX11_say_128 (by decide) ?_
  refine lv_iload_n C.1 C.2.1 dX11_say_129 rfl (lv_at hl 2 rfl) ?_
  obtain ⟨⟨r25, u26⟩, hc27, h⟩ := bd_some h
  try dsimp only at h
  refine cg_v (As := [.int 4, .int z2]) (rest := []) (AX_ge hJ) C hK hP hS (metX8_set_5 l D cy ad st hJ _ 4 z2 hc27) (cwV 2 C.2.2.2.2.2.1 gX11_say_X8_set rfl rfl rfl (by decide +kernel) ⟨(Nat.le_of_ble_eq_true rfl), (Nat.le_of_ble_eq_true rfl)⟩) 5 8 rfl rfl rfl hl.1 rfl (Nat.le_of_ble_eq_true rfl) dX11_say_130 ⟨Nat.zero_le _, Nat.zero_le _⟩ (fun H locs hP hS => ?_)
  refine lv_aload_n C.1 C.2.1 dX11_say_133 rfl (lv_at hl 0 rfl) ?_
  refine gX_0_rules C hX11_say_0_X11 hK hP mX11_say_0_1 dX11_say_134 ?_
  refine lv_iload_n C.1 C.2.1 dX11_say_137 rfl (lv_at hl 1 rfl) ?_
  obtain ⟨⟨r28, u29⟩, hc30, h⟩ := bd_some h
  try dsimp only at h
  refine cg_i (As := [.int z1]) (rest := []) (AX_ge hJ) C hK hP hS (metX8_ask_5 l D cy ad st hJ _ z1 hc30) (cwV 1 C.2.2.2.2.2.1 gX11_say_X8_ask rfl rfl rfl (by decide +kernel) ⟨(Nat.le_of_ble_eq_true rfl), (Nat.le_of_ble_eq_true rfl)⟩) 5 8 rfl rfl rfl hl.1 rfl (Nat.le_of_ble_eq_true rfl) dX11_say_138 ⟨Nat.zero_le _, Nat.zero_le _⟩ (fun H locs hP hS => ?_)
  refine lv_if_eq (tgt := 146) C.1 C.2.1 dX11_say_141 (by decide) (fun c141 => ?_) (fun c141 => ?_)
  · rw [if_pos c141] at h
    refine lv_iinc (v := z2 + 1) (lv' := [(2, .int (z2 + 1)), (0, .ref (ad 0)), (1, .int z1)]) C.1 C.2.1 dX11_say_146 hl (k := 2) rfl rfl (by decide) rfl (fun ls hl => ?_)
    replace hl := lv_sub (l' := [(0, .ref (ad 0)), (1, .int z1), (2, .int (z2 + 1))]) hl [1, 2, 0] rfl
    refine lv_goto (tgt := 15) C.1 C.2.1 dX11_say_149 (by decide) ?_
    exact hk15 _ _ _ _ _ _ h hP hS hl
  · rw [if_neg c141] at h
    refine lv_iload_n C.1 C.2.1 dX11_say_144 rfl (lv_at hl 2 rfl) ?_
    cases h
    exact rt_i C hP hS dX11_say_145
set_option maxHeartbeats 4000000 in
set_option maxRecDepth 100000 in
theorem wGX11_say_0_82 {p : Program} {l : Launch} {e : Env} {s : State} {m : MethodId} {args : Array Value} {below : List Frame} {meth : Method} {c : Code} {D : va_G} {cy : Nat → ClassId} {ad st : Nat → Nat} (C : Cx RX11 cX11_say 4 (some .int) wsX11_say p s m args meth c) (hK : Ky D [(cy 0, .int), (cy 1, .long), (cy 2, .boolean), (cy 3, .byte), (cy 4, .object "HissHorn$Text")] st s) (hJ : JX ad st) {r : Int32} {u' : SX} {k15 : Int32 → Int32 → SX → Option (Int32 × SX)} (hk15 : ∀ (z1 : Int32) (z2 : Int32) (u : SX) (H : Heap) (locs : List Loc) (ls : Array Slot), k15 z1 z2 u = some (r, u') → va_P D vwCl (VX cy ad st u) H → va_S (Ax (AX ad) s.heap.size) s.heap H locs → lv_has ls 4 [(0, .ref (ad 0)), (1, .int z1), (2, .int z2)] → W p l e rmX11_say_0 s m args below meth c H locs 0 0 (MQ below (Qi D (VX cy ad st) (AX ad) s.heap.size r u') args s 0 0 (Ax (AX ad) s.heap.size)) (F0 m 15 ls [])) (z1 : Int32) (z2 : Int32) (z3 : Int32) (y0 : Int32) (y1 : Int32) (u : SX) (H : Heap) (locs : List Loc) (ls : Array Slot) (h : GX11_say_0_82 k15 z1 z2 z3 y0 y1 u = some (r, u')) (hP : va_P D vwCl (VX cy ad st u) H) (hS : va_S (Ax (AX ad) s.heap.size) s.heap H locs) (hl : lv_has ls 4 [(0, .ref (ad 0)), (1, .int z1), (2, .int z2), (3, .int z3)]) : W p l e rmX11_say_0 s m args below meth c H locs 0 0 (MQ below (Qi D (VX cy ad st) (AX ad) s.heap.size r u') args s 0 0 (Ax (AX ad) s.heap.size)) (F0 m 82 ls [.int y0, .int y1, .ref (ad 5)]) := by
  unfold GX11_say_0_82 at h
  obtain ⟨⟨r13, u14⟩, hc15, h⟩ := bd_some h
  try dsimp only at h
  refine cg_v (As := [.int y1, .int y0]) (rest := []) (AX_ge hJ) C hK hP hS (metX8_set_5 l D cy ad st hJ _ y1 y0 hc15) (cwV 2 C.2.2.2.2.2.1 gX11_say_X8_set rfl rfl rfl (by decide +kernel) ⟨(Nat.le_of_ble_eq_true rfl), (Nat.le_of_ble_eq_true rfl)⟩) 5 8 rfl rfl rfl hl.1 rfl (Nat.le_of_ble_eq_true rfl) dX11_say_82 ⟨Nat.zero_le _, Nat.zero_le _⟩ (fun H locs hP hS => ?_)
  refine lv_aload_n C.1 C.2.1 dX11_say_85 rfl (lv_at hl 0 rfl) ?_
  refine gX_0_rules C hX11_say_0_X11 hK hP mX11_say_0_1 dX11_say_86 ?_
  refine lv_iconst (v := 2) C.1 C.2.1 dX11_say_89 (by decide) ?_
  refine lv_iload_n C.1 C.2.1 dX11_say_90 rfl (lv_at hl 3 rfl) ?_
  refine lv_if_eq (tgt := 104) C.1 C.2.1 dX11_say_91 (by decide) (fun c91 => ?_) (fun c91 => ?_)
  · rw [if_pos c91] at h
    refine lv_iconst (v := 0) C.1 C.2.1 dX11_say_104 (by decide) ?_
    exact wGX11_say_0_105 C hK hJ hk15 _ _ _ _ _ _ _ _ h hP hS (lv_sub hl [0, 1, 2] rfl)
  · rw [if_neg c91] at h
    refine lv_aload_n C.1 C.2.1 dX11_say_94 rfl (lv_at hl 0 rfl) ?_
    refine gX_0_findings C hX11_say_0_X11 hK hP mX11_say_0_4 dX11_say_95 ?_
    refine gX_8_alikeFrom C hX11_say_0_X1 hK hP mX11_say_0_9 dX11_say_98 ?_
    refine lv_goto (tgt := 105) C.1 C.2.1 dX11_say_101 (by decide) ?_
    exact wGX11_say_0_105 C hK hJ hk15 _ _ _ _ _ _ _ _ h hP hS (lv_sub hl [0, 1, 2] rfl)
set_option maxHeartbeats 4000000 in
set_option maxRecDepth 100000 in
theorem wLX11_say_0_15 {p : Program} {l : Launch} {e : Env} {s : State} {m : MethodId} {args : Array Value} {below : List Frame} {meth : Method} {c : Code} {D : va_G} {cy : Nat → ClassId} {ad st : Nat → Nat} (C : Cx RX11 cX11_say 4 (some .int) wsX11_say p s m args meth c) (hK : Ky D [(cy 0, .int), (cy 1, .long), (cy 2, .boolean), (cy 3, .byte), (cy 4, .object "HissHorn$Text")] st s) (hJ : JX ad st) {r : Int32} {u' : SX}   : ∀ (n : Nat) (z1 : Int32) (z2 : Int32) (u : SX) (H : Heap) (locs : List Loc) (ls : Array Slot), LX11_say_0_15  n z1 z2 u = some (r, u') → va_P D vwCl (VX cy ad st u) H → va_S (Ax (AX ad) s.heap.size) s.heap H locs → lv_has ls 4 [(0, .ref (ad 0)), (1, .int z1), (2, .int z2)] → W p l e rmX11_say_0 s m args below meth c H locs 0 0 (MQ below (Qi D (VX cy ad st) (AX ad) s.heap.size r u') args s 0 0 (Ax (AX ad) s.heap.size)) (F0 m 15 ls []) := by
  intro n
  induction n with
  | zero =>
    intro z1 z2 u H locs ls h
    exact absurd h (by intro q; cases q)
  | succ n ih =>
    intro z1 z2 u H locs ls h hP hS hl
    rw [LX11_say_0_15] at h
    refine lv_iload_n C.1 C.2.1 dX11_say_15 rfl (lv_at hl 2 rfl) ?_
    refine lv_aload_n C.1 C.2.1 dX11_say_16 rfl (lv_at hl 0 rfl) ?_
    refine gX_0_now C hX11_say_0_X11 hK hP mX11_say_0_2 dX11_say_17 ?_
    refine lv_icmp_gt (tgt := 152) C.1 C.2.1 dX11_say_20 (by decide) (fun c20 => ?_) (fun c20 => ?_)
    · rw [if_pos c20] at h
      refine lv_iconst (v := (-1)) C.1 C.2.1 dX11_say_152 (by decide) ?_
      cases h
      exact rt_i C hP hS dX11_say_153
    · rw [if_neg c20] at h
      refine lv_aload_n C.1 C.2.1 dX11_say_23 rfl (lv_at hl 0 rfl) ?_
      refine gX_0_readings C hX11_say_0_X11 hK hP mX11_say_0_3 dX11_say_24 ?_
      refine lv_iload_n C.1 C.2.1 dX11_say_27 rfl (lv_at hl 2 rfl) ?_
      obtain ⟨⟨r4, u5⟩, hc6, h⟩ := bd_some h
      try dsimp only at h
      refine cg_v (As := [.int z2]) (rest := []) (AX_ge hJ) C hK hP hS (metX7_recall_7 l D cy ad st hJ _ z2 hc6) (cwV 1 C.2.2.2.2.2.1 gX11_say_X7_recall rfl rfl rfl (by decide +kernel) ⟨(Nat.le_of_ble_eq_true rfl), (Nat.le_of_ble_eq_true rfl)⟩) 7 7 rfl rfl rfl hl.1 rfl (Nat.le_of_ble_eq_true rfl) dX11_say_28 ⟨Nat.zero_le _, Nat.zero_le _⟩ (fun H locs hP hS => ?_)
      refine lv_aload_n C.1 C.2.1 dX11_say_31 rfl (lv_at hl 0 rfl) ?_
      refine gX_0_findings C hX11_say_0_X11 hK hP mX11_say_0_4 dX11_say_32 ?_
      obtain ⟨⟨r7, u8⟩, hc9, h⟩ := bd_some h
      try dsimp only at h
      refine cg_i (As := []) (rest := []) (AX_ge hJ) C hK hP hS (metX1_compare_8 l D cy ad st hJ _  hc9) (cwV 0 C.2.2.2.2.2.1 gX11_say_X1_compare rfl rfl rfl (by decide +kernel) ⟨(Nat.le_of_ble_eq_true rfl), (Nat.le_of_ble_eq_true rfl)⟩) 8 1 rfl rfl rfl hl.1 rfl (Nat.le_of_ble_eq_true rfl) dX11_say_35 ⟨Nat.zero_le _, Nat.zero_le _⟩ (fun H locs hP hS => ?_)
      refine lv_istore_n (lv' := [(3, .int r7), (0, .ref (ad 0)), (1, .int z1), (2, .int z2)]) C.1 C.2.1 dX11_say_38 rfl hl (by decide) rfl (fun ls hl => ?_)
      replace hl := lv_sub (l' := [(0, .ref (ad 0)), (1, .int z1), (2, .int z2), (3, .int r7)]) hl [1, 2, 3, 0] rfl
      refine lv_aload_n C.1 C.2.1 dX11_say_39 rfl (lv_at hl 0 rfl) ?_
      refine gX_0_rules C hX11_say_0_X11 hK hP mX11_say_0_1 dX11_say_40 ?_
      refine lv_iconst (v := 0) C.1 C.2.1 dX11_say_43 (by decide) ?_
      refine lv_aload_n C.1 C.2.1 dX11_say_44 rfl (lv_at hl 0 rfl) ?_
      refine gX_0_readings C hX11_say_0_X11 hK hP mX11_say_0_3 dX11_say_45 ?_
      refine gX_7_known C hX11_say_0_X7 hK hP mX11_say_0_6 dX11_say_48 ?_
      obtain ⟨⟨r10, u11⟩, hc12, h⟩ := bd_some h
      try dsimp only at h
      refine cg_v (As := [.int 0, .int (u8.1 14)]) (rest := []) (AX_ge hJ) C hK hP hS (metX8_set_5 l D cy ad st hJ _ 0 (u8.1 14) hc12) (cwV 2 C.2.2.2.2.2.1 gX11_say_X8_set rfl rfl rfl (by decide +kernel) ⟨(Nat.le_of_ble_eq_true rfl), (Nat.le_of_ble_eq_true rfl)⟩) 5 8 rfl rfl rfl hl.1 rfl (Nat.le_of_ble_eq_true rfl) dX11_say_51 ⟨Nat.zero_le _, Nat.zero_le _⟩ (fun H locs hP hS => ?_)
      refine lv_aload_n C.1 C.2.1 dX11_say_54 rfl (lv_at hl 0 rfl) ?_
      refine gX_0_rules C hX11_say_0_X11 hK hP mX11_say_0_1 dX11_say_55 ?_
      refine lv_iconst (v := 1) C.1 C.2.1 dX11_say_58 (by decide) ?_
      refine lv_iload_n C.1 C.2.1 dX11_say_59 rfl (lv_at hl 3 rfl) ?_
      refine lv_if_eq (tgt := 81) C.1 C.2.1 dX11_say_60 (by decide) (fun c60 => ?_) (fun c60 => ?_)
      · rw [if_pos c60] at h
        refine lv_iconst (v := 0) C.1 C.2.1 dX11_say_81 (by decide) ?_
        exact wGX11_say_0_82 C hK hJ ih _ _ _ _ _ _ _ _ _ h hP hS hl
      · rw [if_neg c60] at h
        refine lv_aload_n C.1 C.2.1 dX11_say_63 rfl (lv_at hl 0 rfl) ?_
        refine gX_0_findings C hX11_say_0_X11 hK hP mX11_say_0_4 dX11_say_64 ?_
        refine gX_8_alikeTo C hX11_say_0_X1 hK hP mX11_say_0_10 dX11_say_67 ?_
        refine lv_aload_n C.1 C.2.1 dX11_say_70 rfl (lv_at hl 0 rfl) ?_
        refine gX_0_findings C hX11_say_0_X11 hK hP mX11_say_0_4 dX11_say_71 ?_
        refine gX_8_alikeFrom C hX11_say_0_X1 hK hP mX11_say_0_9 dX11_say_74 ?_
        refine lv_isub C.1 C.2.1 dX11_say_77 ?_
        refine lv_goto (tgt := 82) C.1 C.2.1 dX11_say_78 (by decide) ?_
        exact wGX11_say_0_82 C hK hJ ih _ _ _ _ _ _ _ _ _ h hP hS hl
set_option maxHeartbeats 4000000 in
set_option maxRecDepth 100000 in
theorem wX11_say_0 {p : Program} {l : Launch} {e : Env} {s : State} {m : MethodId} {args : Array Value} {below : List Frame} {meth : Method} {c : Code} {D : va_G} {cy : Nat → ClassId} {ad st : Nat → Nat} (C : Cx RX11 cX11_say 4 (some .int) wsX11_say p s m args meth c) (hK : Ky D [(cy 0, .int), (cy 1, .long), (cy 2, .boolean), (cy 3, .byte), (cy 4, .object "HissHorn$Text")] st s) (hJ : JX ad st) (x1 : Int32) {u : SX} {r : Int32} {u' : SX} {H : Heap} {locs : List Loc} {ls : Array Slot} (h : fX11_say_0 x1 u = some (r, u')) (hP : va_P D vwCl (VX cy ad st u) H) (hS : va_S (Ax (AX ad) s.heap.size) s.heap H locs) (hl : lv_has ls 4 [(0, .ref (ad 0)), (1, .int x1)]) : W p l e rmX11_say_0 s m args below meth c H locs 0 0 (MQ below (Qi D (VX cy ad st) (AX ad) s.heap.size r u') args s 0 0 (Ax (AX ad) s.heap.size)) (F0 m 0 ls []) := by
  unfold fX11_say_0 at h
  refine lv_aload_n C.1 C.2.1 dX11_say_0 rfl (lv_at hl 0 rfl) ?_
  refine gX_0_rules C hX11_say_0_X11 hK hP mX11_say_0_1 dX11_say_1 ?_
  refine lv_iload_n C.1 C.2.1 dX11_say_4 rfl (lv_at hl 1 rfl) ?_
  obtain ⟨⟨r1, u2⟩, hc3, h⟩ := bd_some h
  try dsimp only at h
  refine cg_i (As := [.int x1]) (rest := []) (AX_ge hJ) C hK hP hS (metX8_has_5 l D cy ad st hJ _ x1 hc3) (cwV 1 C.2.2.2.2.2.1 gX11_say_X8_has rfl rfl rfl (by decide +kernel) ⟨(Nat.le_of_ble_eq_true rfl), (Nat.le_of_ble_eq_true rfl)⟩) 5 8 rfl rfl rfl hl.1 rfl (Nat.le_of_ble_eq_true rfl) dX11_say_5 ⟨Nat.zero_le _, Nat.zero_le _⟩ (fun H locs hP hS => ?_)
  refine lv_if_ne (tgt := 13) C.1 C.2.1 dX11_say_8 (by decide) (fun c8 => ?_) (fun c8 => ?_)
  · rw [if_neg c8] at h
    refine lv_iconst (v := 0) C.1 C.2.1 dX11_say_13 (by decide) ?_
    refine lv_istore_n (lv' := [(2, .int 0), (0, .ref (ad 0)), (1, .int x1)]) C.1 C.2.1 dX11_say_14 rfl hl (by decide) rfl (fun ls hl => ?_)
    replace hl := lv_sub (l' := [(0, .ref (ad 0)), (1, .int x1), (2, .int 0)]) hl [1, 2, 0] rfl
    exact wLX11_say_0_15 C hK hJ  5000 _ _ _ _ _ _ h hP hS hl
  · rw [if_pos c8] at h
    refine lv_iconst (v := (-1)) C.1 C.2.1 dX11_say_11 (by decide) ?_
    cases h
    exact rt_i C hP hS dX11_say_12
theorem metX11_say_0 (l : Launch) (D : va_G) (cy : Nat → ClassId) (ad st : Nat → Nat) (hJ : JX ad st) (sz : Nat) (x1 : Int32) {u : SX} {r : Int32} {u' : SX} (h : fX11_say_0 x1 u = some (r, u')) : Met l yX11_say wsX11_say rmX11_say_0 (va_Pc [.ref (ad 0), .int x1] (Px D [(cy 0, .int), (cy 1, .long), (cy 2, .boolean), (cy 3, .byte), (cy 4, .object "HissHorn$Text")] st (VX cy ad st) sz u)) (Qi D (VX cy ad st) (AX ad) sz r u') 0 0 (Ax (AX ad) sz) := by
  refine Met.ofW (cc := cX11_say) (maxL := 4) (ret := (some .int)) (by decide) rfl ?_
  intro p e s m args below meth c s₁ B hml hv
  obtain ⟨rfl, hsz, hP, hK⟩ := hv
  subst hsz
  have C : Cx RX11 cX11_say 4 (some .int) wsX11_say p s m _ meth c := ⟨B.exec, B.bytes, hml, B.returns, findClass_of_methodNamed B.named, atoms_spec (ws := wsX11_say) B.pre, B.notSynchronized⟩
  have hl := lv_entry ([.ref (ad 0), .int x1]) (n := 4) (Nat.le_of_ble_eq_true rfl)
  rw [lg_entry_eq]
  exact wX11_say_0 C hK hJ x1 h hP va_S.rf hl

theorem zdX11_count_0 : (and (and (and (and (and (zk cX11_count 0 (.iload_n 1) 1) (zk cX11_count 1 (.tableswitch 184 0 13 #[71, 76, 84, 92, 100, 108, 116, 124, 136, 144, 152, 160, 168, 176]) 71)) (and (zk cX11_count 72 (.aload_n 0) 1) (zk cX11_count 73 (.getfield 103) 3))) (and (and (zk cX11_count 76 (.ireturn) 1) (zk cX11_count 77 (.aload_n 0) 1)) (and (zk cX11_count 78 (.getfield 32) 3) (zk cX11_count 81 (.getfield 388) 3)))) (and (and (and (zk cX11_count 84 (.ireturn) 1) (zk cX11_count 85 (.aload_n 0) 1)) (and (zk cX11_count 86 (.getfield 38) 3) (zk cX11_count 89 (.getfield 388) 3))) (and (and (zk cX11_count 92 (.ireturn) 1) (zk cX11_count 93 (.aload_n 0) 1)) (and (zk cX11_count 94 (.getfield 43) 3) (zk cX11_count 97 (.getfield 388) 3))))) (and (and (and (and (zk cX11_count 100 (.ireturn) 1) (zk cX11_count 101 (.aload_n 0) 1)) (and (zk cX11_count 102 (.getfield 49) 3) (zk cX11_count 105 (.getfield 168) 3))) (and (and (zk cX11_count 108 (.ireturn) 1) (zk cX11_count 109 (.aload_n 0) 1)) (and (zk cX11_count 110 (.getfield 58) 3) (zk cX11_count 113 (.getfield 208) 3)))) (and (and (and (zk cX11_count 116 (.ireturn) 1) (zk cX11_count 117 (.aload_n 0) 1)) (and (zk cX11_count 118 (.getfield 83) 3) (zk cX11_count 121 (.getfield 251) 3))) (and (and (zk cX11_count 124 (.ireturn) 1) (zk cX11_count 125 (.aload_n 0) 1)) (and (zk cX11_count 126 (.getfield 83) 3) (zk cX11_count 129 (.aload_n 0) 1)))))) = true := by decide +kernel
theorem dX11_count_0 : decode cX11_count 0 = .ok (.iload_n 1, 1) := zk_of (zk_l (zk_l (zk_l (zk_l (zk_l zdX11_count_0)))))
theorem dX11_count_1 : decode cX11_count 1 = .ok (.tableswitch 184 0 13 #[71, 76, 84, 92, 100, 108, 116, 124, 136, 144, 152, 160, 168, 176], 71) := zk_of (zk_r (zk_l (zk_l (zk_l (zk_l zdX11_count_0)))))
theorem dX11_count_72 : decode cX11_count 72 = .ok (.aload_n 0, 1) := zk_of (zk_l (zk_r (zk_l (zk_l (zk_l zdX11_count_0)))))
theorem dX11_count_73 : decode cX11_count 73 = .ok (.getfield 103, 3) := zk_of (zk_r (zk_r (zk_l (zk_l (zk_l zdX11_count_0)))))
theorem dX11_count_76 : decode cX11_count 76 = .ok (.ireturn, 1) := zk_of (zk_l (zk_l (zk_r (zk_l (zk_l zdX11_count_0)))))
theorem dX11_count_77 : decode cX11_count 77 = .ok (.aload_n 0, 1) := zk_of (zk_r (zk_l (zk_r (zk_l (zk_l zdX11_count_0)))))
theorem dX11_count_78 : decode cX11_count 78 = .ok (.getfield 32, 3) := zk_of (zk_l (zk_r (zk_r (zk_l (zk_l zdX11_count_0)))))
theorem dX11_count_81 : decode cX11_count 81 = .ok (.getfield 388, 3) := zk_of (zk_r (zk_r (zk_r (zk_l (zk_l zdX11_count_0)))))
theorem dX11_count_84 : decode cX11_count 84 = .ok (.ireturn, 1) := zk_of (zk_l (zk_l (zk_l (zk_r (zk_l zdX11_count_0)))))
theorem dX11_count_85 : decode cX11_count 85 = .ok (.aload_n 0, 1) := zk_of (zk_r (zk_l (zk_l (zk_r (zk_l zdX11_count_0)))))
theorem dX11_count_86 : decode cX11_count 86 = .ok (.getfield 38, 3) := zk_of (zk_l (zk_r (zk_l (zk_r (zk_l zdX11_count_0)))))
theorem dX11_count_89 : decode cX11_count 89 = .ok (.getfield 388, 3) := zk_of (zk_r (zk_r (zk_l (zk_r (zk_l zdX11_count_0)))))
theorem dX11_count_92 : decode cX11_count 92 = .ok (.ireturn, 1) := zk_of (zk_l (zk_l (zk_r (zk_r (zk_l zdX11_count_0)))))
theorem dX11_count_93 : decode cX11_count 93 = .ok (.aload_n 0, 1) := zk_of (zk_r (zk_l (zk_r (zk_r (zk_l zdX11_count_0)))))
theorem dX11_count_94 : decode cX11_count 94 = .ok (.getfield 43, 3) := zk_of (zk_l (zk_r (zk_r (zk_r (zk_l zdX11_count_0)))))
theorem dX11_count_97 : decode cX11_count 97 = .ok (.getfield 388, 3) := zk_of (zk_r (zk_r (zk_r (zk_r (zk_l zdX11_count_0)))))
theorem dX11_count_100 : decode cX11_count 100 = .ok (.ireturn, 1) := zk_of (zk_l (zk_l (zk_l (zk_l (zk_r zdX11_count_0)))))
theorem dX11_count_101 : decode cX11_count 101 = .ok (.aload_n 0, 1) := zk_of (zk_r (zk_l (zk_l (zk_l (zk_r zdX11_count_0)))))
theorem dX11_count_102 : decode cX11_count 102 = .ok (.getfield 49, 3) := zk_of (zk_l (zk_r (zk_l (zk_l (zk_r zdX11_count_0)))))
theorem dX11_count_105 : decode cX11_count 105 = .ok (.getfield 168, 3) := zk_of (zk_r (zk_r (zk_l (zk_l (zk_r zdX11_count_0)))))
theorem dX11_count_108 : decode cX11_count 108 = .ok (.ireturn, 1) := zk_of (zk_l (zk_l (zk_r (zk_l (zk_r zdX11_count_0)))))
theorem dX11_count_109 : decode cX11_count 109 = .ok (.aload_n 0, 1) := zk_of (zk_r (zk_l (zk_r (zk_l (zk_r zdX11_count_0)))))
theorem dX11_count_110 : decode cX11_count 110 = .ok (.getfield 58, 3) := zk_of (zk_l (zk_r (zk_r (zk_l (zk_r zdX11_count_0)))))
theorem dX11_count_113 : decode cX11_count 113 = .ok (.getfield 208, 3) := zk_of (zk_r (zk_r (zk_r (zk_l (zk_r zdX11_count_0)))))
theorem dX11_count_116 : decode cX11_count 116 = .ok (.ireturn, 1) := zk_of (zk_l (zk_l (zk_l (zk_r (zk_r zdX11_count_0)))))
theorem dX11_count_117 : decode cX11_count 117 = .ok (.aload_n 0, 1) := zk_of (zk_r (zk_l (zk_l (zk_r (zk_r zdX11_count_0)))))
theorem dX11_count_118 : decode cX11_count 118 = .ok (.getfield 83, 3) := zk_of (zk_l (zk_r (zk_l (zk_r (zk_r zdX11_count_0)))))
theorem dX11_count_121 : decode cX11_count 121 = .ok (.getfield 251, 3) := zk_of (zk_r (zk_r (zk_l (zk_r (zk_r zdX11_count_0)))))
theorem dX11_count_124 : decode cX11_count 124 = .ok (.ireturn, 1) := zk_of (zk_l (zk_l (zk_r (zk_r (zk_r zdX11_count_0)))))
theorem dX11_count_125 : decode cX11_count 125 = .ok (.aload_n 0, 1) := zk_of (zk_r (zk_l (zk_r (zk_r (zk_r zdX11_count_0)))))
theorem dX11_count_126 : decode cX11_count 126 = .ok (.getfield 83, 3) := zk_of (zk_l (zk_r (zk_r (zk_r (zk_r zdX11_count_0)))))
theorem dX11_count_129 : decode cX11_count 129 = .ok (.aload_n 0, 1) := zk_of (zk_r (zk_r (zk_r (zk_r (zk_r zdX11_count_0)))))
theorem zdX11_count_130 : (and (and (and (and (and (zk cX11_count 130 (.getfield 103) 3) (zk cX11_count 133 (.invokevirtual 385) 3)) (and (zk cX11_count 136 (.ireturn) 1) (zk cX11_count 137 (.aload_n 0) 1))) (and (and (zk cX11_count 138 (.getfield 49) 3) (zk cX11_count 141 (.getfield 263) 3)) (and (zk cX11_count 144 (.ireturn) 1) (zk cX11_count 145 (.aload_n 0) 1)))) (and (and (and (zk cX11_count 146 (.getfield 90) 3) (zk cX11_count 149 (.getfield 322) 3)) (and (zk cX11_count 152 (.ireturn) 1) (zk cX11_count 153 (.aload_n 0) 1))) (and (and (zk cX11_count 154 (.getfield 90) 3) (zk cX11_count 157 (.getfield 330) 3)) (zk cX11_count 160 (.ireturn) 1)))) (and (and (and (and (zk cX11_count 161 (.aload_n 0) 1) (zk cX11_count 162 (.getfield 90) 3)) (and (zk cX11_count 165 (.getfield 324) 3) (zk cX11_count 168 (.ireturn) 1))) (and (and (zk cX11_count 169 (.aload_n 0) 1) (zk cX11_count 170 (.getfield 90) 3)) (zk cX11_count 173 (.getfield 340) 3))) (and (and (and (zk cX11_count 176 (.ireturn) 1) (zk cX11_count 177 (.aload_n 0) 1)) (and (zk cX11_count 178 (.getfield 10) 3) (zk cX11_count 181 (.getfield 115) 3))) (and (and (zk cX11_count 184 (.ireturn) 1) (zk cX11_count 185 (.iconst (-1)) 1)) (zk cX11_count 186 (.ireturn) 1))))) = true := by decide +kernel
theorem dX11_count_130 : decode cX11_count 130 = .ok (.getfield 103, 3) := zk_of (zk_l (zk_l (zk_l (zk_l (zk_l zdX11_count_130)))))
theorem dX11_count_133 : decode cX11_count 133 = .ok (.invokevirtual 385, 3) := zk_of (zk_r (zk_l (zk_l (zk_l (zk_l zdX11_count_130)))))
theorem dX11_count_136 : decode cX11_count 136 = .ok (.ireturn, 1) := zk_of (zk_l (zk_r (zk_l (zk_l (zk_l zdX11_count_130)))))
theorem dX11_count_137 : decode cX11_count 137 = .ok (.aload_n 0, 1) := zk_of (zk_r (zk_r (zk_l (zk_l (zk_l zdX11_count_130)))))
theorem dX11_count_138 : decode cX11_count 138 = .ok (.getfield 49, 3) := zk_of (zk_l (zk_l (zk_r (zk_l (zk_l zdX11_count_130)))))
theorem dX11_count_141 : decode cX11_count 141 = .ok (.getfield 263, 3) := zk_of (zk_r (zk_l (zk_r (zk_l (zk_l zdX11_count_130)))))
theorem dX11_count_144 : decode cX11_count 144 = .ok (.ireturn, 1) := zk_of (zk_l (zk_r (zk_r (zk_l (zk_l zdX11_count_130)))))
theorem dX11_count_145 : decode cX11_count 145 = .ok (.aload_n 0, 1) := zk_of (zk_r (zk_r (zk_r (zk_l (zk_l zdX11_count_130)))))
theorem dX11_count_146 : decode cX11_count 146 = .ok (.getfield 90, 3) := zk_of (zk_l (zk_l (zk_l (zk_r (zk_l zdX11_count_130)))))
theorem dX11_count_149 : decode cX11_count 149 = .ok (.getfield 322, 3) := zk_of (zk_r (zk_l (zk_l (zk_r (zk_l zdX11_count_130)))))
theorem dX11_count_152 : decode cX11_count 152 = .ok (.ireturn, 1) := zk_of (zk_l (zk_r (zk_l (zk_r (zk_l zdX11_count_130)))))
theorem dX11_count_153 : decode cX11_count 153 = .ok (.aload_n 0, 1) := zk_of (zk_r (zk_r (zk_l (zk_r (zk_l zdX11_count_130)))))
theorem dX11_count_154 : decode cX11_count 154 = .ok (.getfield 90, 3) := zk_of (zk_l (zk_l (zk_r (zk_r (zk_l zdX11_count_130)))))
theorem dX11_count_157 : decode cX11_count 157 = .ok (.getfield 330, 3) := zk_of (zk_r (zk_l (zk_r (zk_r (zk_l zdX11_count_130)))))
theorem dX11_count_160 : decode cX11_count 160 = .ok (.ireturn, 1) := zk_of (zk_r (zk_r (zk_r (zk_l zdX11_count_130))))
theorem dX11_count_161 : decode cX11_count 161 = .ok (.aload_n 0, 1) := zk_of (zk_l (zk_l (zk_l (zk_l (zk_r zdX11_count_130)))))
theorem dX11_count_162 : decode cX11_count 162 = .ok (.getfield 90, 3) := zk_of (zk_r (zk_l (zk_l (zk_l (zk_r zdX11_count_130)))))
theorem dX11_count_165 : decode cX11_count 165 = .ok (.getfield 324, 3) := zk_of (zk_l (zk_r (zk_l (zk_l (zk_r zdX11_count_130)))))
theorem dX11_count_168 : decode cX11_count 168 = .ok (.ireturn, 1) := zk_of (zk_r (zk_r (zk_l (zk_l (zk_r zdX11_count_130)))))
theorem dX11_count_169 : decode cX11_count 169 = .ok (.aload_n 0, 1) := zk_of (zk_l (zk_l (zk_r (zk_l (zk_r zdX11_count_130)))))
theorem dX11_count_170 : decode cX11_count 170 = .ok (.getfield 90, 3) := zk_of (zk_r (zk_l (zk_r (zk_l (zk_r zdX11_count_130)))))
theorem dX11_count_173 : decode cX11_count 173 = .ok (.getfield 340, 3) := zk_of (zk_r (zk_r (zk_l (zk_r zdX11_count_130))))
theorem dX11_count_176 : decode cX11_count 176 = .ok (.ireturn, 1) := zk_of (zk_l (zk_l (zk_l (zk_r (zk_r zdX11_count_130)))))
theorem dX11_count_177 : decode cX11_count 177 = .ok (.aload_n 0, 1) := zk_of (zk_r (zk_l (zk_l (zk_r (zk_r zdX11_count_130)))))
theorem dX11_count_178 : decode cX11_count 178 = .ok (.getfield 10, 3) := zk_of (zk_l (zk_r (zk_l (zk_r (zk_r zdX11_count_130)))))
theorem dX11_count_181 : decode cX11_count 181 = .ok (.getfield 115, 3) := zk_of (zk_r (zk_r (zk_l (zk_r (zk_r zdX11_count_130)))))
theorem dX11_count_184 : decode cX11_count 184 = .ok (.ireturn, 1) := zk_of (zk_l (zk_l (zk_r (zk_r (zk_r zdX11_count_130)))))
theorem dX11_count_185 : decode cX11_count 185 = .ok (.iconst (-1), 1) := zk_of (zk_r (zk_l (zk_r (zk_r (zk_r zdX11_count_130)))))
theorem dX11_count_186 : decode cX11_count 186 = .ok (.ireturn, 1) := zk_of (zk_r (zk_r (zk_r (zk_r zdX11_count_130))))
set_option maxRecDepth 20000 in
theorem ggX11_count_X3_doneUpTo : GoodIn wsX11_count wsX3_doneUpTo := ggi (fun w h => List.mem_cons_of_mem _ (List.mem_append_left _ (List.mem_append_left _ (List.mem_append_left _ (List.mem_append_left _ (List.mem_append_left _ (List.mem_append_left _ (List.mem_append_left _ (List.mem_append_right _ h))))))))) gs_X3_doneUpTo
set_option maxRecDepth 20000 in
theorem gX11_count_X3_doneUpTo : GoodIn wsX11_count (wsV RX11 385 RX3 yX3_doneUpTo wsX3_doneUpTo) := goodIn_app (goodIn_of _ (by decide +kernel)) ggX11_count_X3_doneUpTo
/-- HissHorn.count(I)I of cell 0 -/
def rmX11_count_0 : Room := { frames := 2, cells := 0, slots := 0, locals := 44 }
theorem hX11_count_0_X11 : ∀ w ∈ u_ws RX11 TX11 13, w ∈ wsX11_count := fun w h => (List.mem_cons_of_mem _ (List.mem_append_left _ (List.mem_append_left _ (List.mem_append_left _ (List.mem_append_left _ (List.mem_append_left _ (List.mem_append_left _ (List.mem_append_right _ h))))))))
theorem mX11_count_0_1 : Cond.fieldLink RX11 103 "HissHorn" "now" "I" ∈ wsX11_count := (List.mem_cons_of_mem _ (List.mem_append_left _ (List.mem_append_left _ (List.mem_append_left _ (List.mem_append_left _ (List.mem_append_left _ (List.mem_append_left _ (List.mem_append_left _ (List.mem_append_left _ (List.mem_of_getElem? (i := 4) rfl))))))))))
theorem mX11_count_0_2 : Cond.fieldLink RX11 32 "HissHorn" "laws" "LHissHorn$Shelf;" ∈ wsX11_count := (List.mem_cons_of_mem _ (List.mem_append_left _ (List.mem_append_left _ (List.mem_append_left _ (List.mem_append_left _ (List.mem_append_left _ (List.mem_append_left _ (List.mem_append_left _ (List.mem_append_left _ (List.mem_of_getElem? (i := 5) rfl))))))))))
theorem hX11_count_0_X8 : ∀ w ∈ u_ws RX8 TX8 5, w ∈ wsX11_count := fun w h => (List.mem_cons_of_mem _ (List.mem_append_left _ (List.mem_append_left _ (List.mem_append_left _ (List.mem_append_left _ (List.mem_append_left _ (List.mem_append_right _ h)))))))
theorem mX11_count_0_4 : Cond.fieldLink RX11 388 "HissHorn$Shelf" "size" "I" ∈ wsX11_count := (List.mem_cons_of_mem _ (List.mem_append_left _ (List.mem_append_left _ (List.mem_append_left _ (List.mem_append_left _ (List.mem_append_left _ (List.mem_append_left _ (List.mem_append_left _ (List.mem_append_left _ (List.mem_of_getElem? (i := 6) rfl))))))))))
theorem mX11_count_0_5 : Cond.fieldLink RX11 38 "HissHorn" "guesses" "LHissHorn$Shelf;" ∈ wsX11_count := (List.mem_cons_of_mem _ (List.mem_append_left _ (List.mem_append_left _ (List.mem_append_left _ (List.mem_append_left _ (List.mem_append_left _ (List.mem_append_left _ (List.mem_append_left _ (List.mem_append_left _ (List.mem_of_getElem? (i := 7) rfl))))))))))
theorem mX11_count_0_6 : Cond.fieldLink RX11 43 "HissHorn" "rules" "LHissHorn$Shelf;" ∈ wsX11_count := (List.mem_cons_of_mem _ (List.mem_append_left _ (List.mem_append_left _ (List.mem_append_left _ (List.mem_append_left _ (List.mem_append_left _ (List.mem_append_left _ (List.mem_append_left _ (List.mem_append_left _ (List.mem_of_getElem? (i := 8) rfl))))))))))
theorem mX11_count_0_7 : Cond.fieldLink RX11 49 "HissHorn" "parts" "LHissHorn$Parts;" ∈ wsX11_count := (List.mem_cons_of_mem _ (List.mem_append_left _ (List.mem_append_left _ (List.mem_append_left _ (List.mem_append_left _ (List.mem_append_left _ (List.mem_append_left _ (List.mem_append_left _ (List.mem_append_left _ (List.mem_of_getElem? (i := 9) rfl))))))))))
theorem hX11_count_0_X6 : ∀ w ∈ u_ws RX6 TX6 17, w ∈ wsX11_count := fun w h => (List.mem_cons_of_mem _ (List.mem_append_left _ (List.mem_append_left _ (List.mem_append_left _ (List.mem_append_left _ (List.mem_append_right _ h))))))
theorem mX11_count_0_9 : Cond.fieldLink RX11 168 "HissHorn$Parts" "size" "I" ∈ wsX11_count := (List.mem_cons_of_mem _ (List.mem_append_left _ (List.mem_append_left _ (List.mem_append_left _ (List.mem_append_left _ (List.mem_append_left _ (List.mem_append_left _ (List.mem_append_left _ (List.mem_append_left _ (List.mem_of_getElem? (i := 10) rfl))))))))))
theorem mX11_count_0_10 : Cond.fieldLink RX11 58 "HissHorn" "readings" "LHissHorn$Readings;" ∈ wsX11_count := (List.mem_cons_of_mem _ (List.mem_append_left _ (List.mem_append_left _ (List.mem_append_left _ (List.mem_append_left _ (List.mem_append_left _ (List.mem_append_left _ (List.mem_append_left _ (List.mem_append_left _ (List.mem_of_getElem? (i := 11) rfl))))))))))
theorem hX11_count_0_X7 : ∀ w ∈ u_ws RX7 TX7 12, w ∈ wsX11_count := fun w h => (List.mem_cons_of_mem _ (List.mem_append_left _ (List.mem_append_left _ (List.mem_append_left _ (List.mem_append_right _ h)))))
theorem mX11_count_0_12 : Cond.fieldLink RX11 208 "HissHorn$Readings" "size" "I" ∈ wsX11_count := (List.mem_cons_of_mem _ (List.mem_append_left _ (List.mem_append_left _ (List.mem_append_left _ (List.mem_append_left _ (List.mem_append_left _ (List.mem_append_left _ (List.mem_append_left _ (List.mem_append_left _ (List.mem_of_getElem? (i := 12) rfl))))))))))
theorem mX11_count_0_13 : Cond.fieldLink RX11 83 "HissHorn" "looks" "LHissHorn$Looks;" ∈ wsX11_count := (List.mem_cons_of_mem _ (List.mem_append_left _ (List.mem_append_left _ (List.mem_append_left _ (List.mem_append_left _ (List.mem_append_left _ (List.mem_append_left _ (List.mem_append_left _ (List.mem_append_left _ (List.mem_of_getElem? (i := 13) rfl))))))))))
theorem hX11_count_0_X3 : ∀ w ∈ u_ws RX3 TX3 19, w ∈ wsX11_count := fun w h => (List.mem_cons_of_mem _ (List.mem_append_left _ (List.mem_append_left _ (List.mem_append_right _ h))))
theorem mX11_count_0_15 : Cond.fieldLink RX11 251 "HissHorn$Looks" "size" "I" ∈ wsX11_count := (List.mem_cons_of_mem _ (List.mem_append_left _ (List.mem_append_left _ (List.mem_append_left _ (List.mem_append_left _ (List.mem_append_left _ (List.mem_append_left _ (List.mem_append_left _ (List.mem_append_left _ (List.mem_of_getElem? (i := 14) rfl))))))))))
theorem mX11_count_0_16 : Cond.fieldLink RX11 263 "HissHorn$Parts" "cleanings" "I" ∈ wsX11_count := (List.mem_cons_of_mem _ (List.mem_append_left _ (List.mem_append_left _ (List.mem_append_left _ (List.mem_append_left _ (List.mem_append_left _ (List.mem_append_left _ (List.mem_append_left _ (List.mem_append_left _ (List.mem_of_getElem? (i := 15) rfl))))))))))
theorem mX11_count_0_17 : Cond.fieldLink RX11 90 "HissHorn" "houses" "LHissHorn$Houses;" ∈ wsX11_count := (List.mem_cons_of_mem _ (List.mem_append_left _ (List.mem_append_left _ (List.mem_append_left _ (List.mem_append_left _ (List.mem_append_left _ (List.mem_append_left _ (List.mem_append_left _ (List.mem_append_left _ (List.mem_of_getElem? (i := 16) rfl))))))))))
theorem hX11_count_0_X2 : ∀ w ∈ u_ws RX2 TX2 18, w ∈ wsX11_count := fun w h => (List.mem_cons_of_mem _ (List.mem_append_left _ (List.mem_append_right _ h)))
theorem mX11_count_0_19 : Cond.fieldLink RX11 322 "HissHorn$Houses" "size" "I" ∈ wsX11_count := (List.mem_cons_of_mem _ (List.mem_append_left _ (List.mem_append_left _ (List.mem_append_left _ (List.mem_append_left _ (List.mem_append_left _ (List.mem_append_left _ (List.mem_append_left _ (List.mem_append_left _ (List.mem_of_getElem? (i := 17) rfl))))))))))
theorem mX11_count_0_20 : Cond.fieldLink RX11 330 "HissHorn$Houses" "prints" "I" ∈ wsX11_count := (List.mem_cons_of_mem _ (List.mem_append_left _ (List.mem_append_left _ (List.mem_append_left _ (List.mem_append_left _ (List.mem_append_left _ (List.mem_append_left _ (List.mem_append_left _ (List.mem_append_left _ (List.mem_of_getElem? (i := 18) rfl))))))))))
theorem mX11_count_0_21 : Cond.fieldLink RX11 324 "HissHorn$Houses" "papers" "I" ∈ wsX11_count := (List.mem_cons_of_mem _ (List.mem_append_left _ (List.mem_append_left _ (List.mem_append_left _ (List.mem_append_left _ (List.mem_append_left _ (List.mem_append_left _ (List.mem_append_left _ (List.mem_append_left _ (List.mem_of_getElem? (i := 19) rfl))))))))))
theorem mX11_count_0_22 : Cond.fieldLink RX11 340 "HissHorn$Houses" "letters" "I" ∈ wsX11_count := (List.mem_cons_of_mem _ (List.mem_append_left _ (List.mem_append_left _ (List.mem_append_left _ (List.mem_append_left _ (List.mem_append_left _ (List.mem_append_left _ (List.mem_append_left _ (List.mem_append_left _ (List.mem_of_getElem? (i := 20) rfl))))))))))
theorem mX11_count_0_23 : Cond.fieldLink RX11 10 "HissHorn" "tape" "LHissHorn$Tape;" ∈ wsX11_count := (List.mem_cons_of_mem _ (List.mem_append_left _ (List.mem_append_left _ (List.mem_append_left _ (List.mem_append_left _ (List.mem_append_left _ (List.mem_append_left _ (List.mem_append_left _ (List.mem_append_left _ (List.mem_of_getElem? (i := 21) rfl))))))))))
theorem hX11_count_0_X9 : ∀ w ∈ u_ws RX9 TX9 2, w ∈ wsX11_count := fun w h => (List.mem_cons_of_mem _ (List.mem_append_right _ h))
theorem mX11_count_0_25 : Cond.fieldLink RX11 115 "HissHorn$Tape" "length" "I" ∈ wsX11_count := (List.mem_cons_of_mem _ (List.mem_append_left _ (List.mem_append_left _ (List.mem_append_left _ (List.mem_append_left _ (List.mem_append_left _ (List.mem_append_left _ (List.mem_append_left _ (List.mem_append_left _ (List.mem_of_getElem? (i := 22) rfl))))))))))
def fX11_count_0 (x1 : Int32) (u : SX) : Option (Int32 × SX) := (if x1 = 0 then (some (u.1 0, u)) else (if x1 = 1 then (some (u.1 5, u)) else (if x1 = 2 then (some (u.1 6, u)) else (if x1 = 3 then (some (u.1 7, u)) else (if x1 = 4 then (some (u.1 8, u)) else (if x1 = 5 then (some (u.1 13, u)) else (if x1 = 6 then (some (u.1 29, u)) else (if x1 = 7 then ((fX3_doneUpTo_10 (u.1 0) u).bind fun q => match q with | (r1, u2) => (some (r1, u2))) else (if x1 = 8 then (some (u.1 9, u)) else (if x1 = 9 then (some (u.1 35, u)) else (if x1 = 10 then (some (u.1 36, u)) else (if x1 = 11 then (some (u.1 37, u)) else (if x1 = 12 then (some (u.1 38, u)) else (if x1 = 13 then (some (u.1 1, u)) else (some ((-1), u))))))))))))))))
set_option maxHeartbeats 4000000 in
set_option maxRecDepth 100000 in
theorem wX11_count_0 {p : Program} {l : Launch} {e : Env} {s : State} {m : MethodId} {args : Array Value} {below : List Frame} {meth : Method} {c : Code} {D : va_G} {cy : Nat → ClassId} {ad st : Nat → Nat} (C : Cx RX11 cX11_count 2 (some .int) wsX11_count p s m args meth c) (hK : Ky D [(cy 0, .int), (cy 1, .long), (cy 2, .boolean), (cy 3, .byte), (cy 4, .object "HissHorn$Text")] st s) (hJ : JX ad st) (x1 : Int32) {u : SX} {r : Int32} {u' : SX} {H : Heap} {locs : List Loc} {ls : Array Slot} (h : fX11_count_0 x1 u = some (r, u')) (hP : va_P D vwCl (VX cy ad st u) H) (hS : va_S (Ax (AX ad) s.heap.size) s.heap H locs) (hl : lv_has ls 2 [(0, .ref (ad 0)), (1, .int x1)]) : W p l e rmX11_count_0 s m args below meth c H locs 0 0 (MQ below (Qi D (VX cy ad st) (AX ad) s.heap.size r u') args s 0 0 (Ax (AX ad) s.heap.size)) (F0 m 0 ls []) := by
  unfold fX11_count_0 at h
  refine lv_iload_n C.1 C.2.1 dX11_count_0 rfl (lv_at hl 1 rfl) ?_
  by_cases c1_0 : x1 = 0
  · rw [if_pos c1_0] at h
    rw [c1_0]
    refine lv_tableIn (off := 71) (tgt := 72) C.1 C.2.1 dX11_count_1 (by decide) (by decide) (by decide) (by decide) ?_
    refine lv_aload_n C.1 C.2.1 dX11_count_72 rfl (lv_at hl 0 rfl) ?_
    refine gX_0_now C hX11_count_0_X11 hK hP mX11_count_0_1 dX11_count_73 ?_
    cases h
    exact rt_i C hP hS dX11_count_76
  · rw [if_neg c1_0] at h
    by_cases c1_1 : x1 = 1
    · rw [if_pos c1_1] at h
      rw [c1_1]
      refine lv_tableIn (off := 76) (tgt := 77) C.1 C.2.1 dX11_count_1 (by decide) (by decide) (by decide) (by decide) ?_
      refine lv_aload_n C.1 C.2.1 dX11_count_77 rfl (lv_at hl 0 rfl) ?_
      refine gX_0_laws C hX11_count_0_X11 hK hP mX11_count_0_2 dX11_count_78 ?_
      refine gX_3_size C hX11_count_0_X8 hK hP mX11_count_0_4 dX11_count_81 ?_
      cases h
      exact rt_i C hP hS dX11_count_84
    · rw [if_neg c1_1] at h
      by_cases c1_2 : x1 = 2
      · rw [if_pos c1_2] at h
        rw [c1_2]
        refine lv_tableIn (off := 84) (tgt := 85) C.1 C.2.1 dX11_count_1 (by decide) (by decide) (by decide) (by decide) ?_
        refine lv_aload_n C.1 C.2.1 dX11_count_85 rfl (lv_at hl 0 rfl) ?_
        refine gX_0_guesses C hX11_count_0_X11 hK hP mX11_count_0_5 dX11_count_86 ?_
        refine gX_4_size C hX11_count_0_X8 hK hP mX11_count_0_4 dX11_count_89 ?_
        cases h
        exact rt_i C hP hS dX11_count_92
      · rw [if_neg c1_2] at h
        by_cases c1_3 : x1 = 3
        · rw [if_pos c1_3] at h
          rw [c1_3]
          refine lv_tableIn (off := 92) (tgt := 93) C.1 C.2.1 dX11_count_1 (by decide) (by decide) (by decide) (by decide) ?_
          refine lv_aload_n C.1 C.2.1 dX11_count_93 rfl (lv_at hl 0 rfl) ?_
          refine gX_0_rules C hX11_count_0_X11 hK hP mX11_count_0_6 dX11_count_94 ?_
          refine gX_5_size C hX11_count_0_X8 hK hP mX11_count_0_4 dX11_count_97 ?_
          cases h
          exact rt_i C hP hS dX11_count_100
        · rw [if_neg c1_3] at h
          by_cases c1_4 : x1 = 4
          · rw [if_pos c1_4] at h
            rw [c1_4]
            refine lv_tableIn (off := 100) (tgt := 101) C.1 C.2.1 dX11_count_1 (by decide) (by decide) (by decide) (by decide) ?_
            refine lv_aload_n C.1 C.2.1 dX11_count_101 rfl (lv_at hl 0 rfl) ?_
            refine gX_0_parts C hX11_count_0_X11 hK hP mX11_count_0_7 dX11_count_102 ?_
            refine gX_6_size C hX11_count_0_X6 hK hP mX11_count_0_9 dX11_count_105 ?_
            cases h
            exact rt_i C hP hS dX11_count_108
          · rw [if_neg c1_4] at h
            by_cases c1_5 : x1 = 5
            · rw [if_pos c1_5] at h
              rw [c1_5]
              refine lv_tableIn (off := 108) (tgt := 109) C.1 C.2.1 dX11_count_1 (by decide) (by decide) (by decide) (by decide) ?_
              refine lv_aload_n C.1 C.2.1 dX11_count_109 rfl (lv_at hl 0 rfl) ?_
              refine gX_0_readings C hX11_count_0_X11 hK hP mX11_count_0_10 dX11_count_110 ?_
              refine gX_7_size C hX11_count_0_X7 hK hP mX11_count_0_12 dX11_count_113 ?_
              cases h
              exact rt_i C hP hS dX11_count_116
            · rw [if_neg c1_5] at h
              by_cases c1_6 : x1 = 6
              · rw [if_pos c1_6] at h
                rw [c1_6]
                refine lv_tableIn (off := 116) (tgt := 117) C.1 C.2.1 dX11_count_1 (by decide) (by decide) (by decide) (by decide) ?_
                refine lv_aload_n C.1 C.2.1 dX11_count_117 rfl (lv_at hl 0 rfl) ?_
                refine gX_0_looks C hX11_count_0_X11 hK hP mX11_count_0_13 dX11_count_118 ?_
                refine gX_10_size C hX11_count_0_X3 hK hP mX11_count_0_15 dX11_count_121 ?_
                cases h
                exact rt_i C hP hS dX11_count_124
              · rw [if_neg c1_6] at h
                by_cases c1_7 : x1 = 7
                · rw [if_pos c1_7] at h
                  rw [c1_7]
                  refine lv_tableIn (off := 124) (tgt := 125) C.1 C.2.1 dX11_count_1 (by decide) (by decide) (by decide) (by decide) ?_
                  refine lv_aload_n C.1 C.2.1 dX11_count_125 rfl (lv_at hl 0 rfl) ?_
                  refine gX_0_looks C hX11_count_0_X11 hK hP mX11_count_0_13 dX11_count_126 ?_
                  refine lv_aload_n C.1 C.2.1 dX11_count_129 rfl (lv_at hl 0 rfl) ?_
                  refine gX_0_now C hX11_count_0_X11 hK hP mX11_count_0_1 dX11_count_130 ?_
                  obtain ⟨⟨r1, u2⟩, hc3, h⟩ := bd_some h
                  try dsimp only at h
                  refine cg_i (As := [.int (u.1 0)]) (rest := []) (AX_ge hJ) C hK hP hS (metX3_doneUpTo_10 l D cy ad st hJ _ (u.1 0) hc3) (cwV 1 C.2.2.2.2.2.1 gX11_count_X3_doneUpTo rfl rfl rfl (by decide +kernel) ⟨(Nat.le_of_ble_eq_true rfl), (Nat.le_of_ble_eq_true rfl)⟩) 10 3 rfl rfl rfl hl.1 rfl (Nat.le_of_ble_eq_true rfl) dX11_count_133 ⟨Nat.zero_le _, Nat.zero_le _⟩ (fun H locs hP hS => ?_)
                  cases h
                  exact rt_i C hP hS dX11_count_136
                · rw [if_neg c1_7] at h
                  by_cases c1_8 : x1 = 8
                  · rw [if_pos c1_8] at h
                    rw [c1_8]
                    refine lv_tableIn (off := 136) (tgt := 137) C.1 C.2.1 dX11_count_1 (by decide) (by decide) (by decide) (by decide) ?_
                    refine lv_aload_n C.1 C.2.1 dX11_count_137 rfl (lv_at hl 0 rfl) ?_
                    refine gX_0_parts C hX11_count_0_X11 hK hP mX11_count_0_7 dX11_count_138 ?_
                    refine gX_6_cleanings C hX11_count_0_X6 hK hP mX11_count_0_16 dX11_count_141 ?_
                    cases h
                    exact rt_i C hP hS dX11_count_144
                  · rw [if_neg c1_8] at h
                    by_cases c1_9 : x1 = 9
                    · rw [if_pos c1_9] at h
                      rw [c1_9]
                      refine lv_tableIn (off := 144) (tgt := 145) C.1 C.2.1 dX11_count_1 (by decide) (by decide) (by decide) (by decide) ?_
                      refine lv_aload_n C.1 C.2.1 dX11_count_145 rfl (lv_at hl 0 rfl) ?_
                      refine gX_0_houses C hX11_count_0_X11 hK hP mX11_count_0_17 dX11_count_146 ?_
                      refine gX_11_size C hX11_count_0_X2 hK hP mX11_count_0_19 dX11_count_149 ?_
                      cases h
                      exact rt_i C hP hS dX11_count_152
                    · rw [if_neg c1_9] at h
                      by_cases c1_10 : x1 = 10
                      · rw [if_pos c1_10] at h
                        rw [c1_10]
                        refine lv_tableIn (off := 152) (tgt := 153) C.1 C.2.1 dX11_count_1 (by decide) (by decide) (by decide) (by decide) ?_
                        refine lv_aload_n C.1 C.2.1 dX11_count_153 rfl (lv_at hl 0 rfl) ?_
                        refine gX_0_houses C hX11_count_0_X11 hK hP mX11_count_0_17 dX11_count_154 ?_
                        refine gX_11_prints C hX11_count_0_X2 hK hP mX11_count_0_20 dX11_count_157 ?_
                        cases h
                        exact rt_i C hP hS dX11_count_160
                      · rw [if_neg c1_10] at h
                        by_cases c1_11 : x1 = 11
                        · rw [if_pos c1_11] at h
                          rw [c1_11]
                          refine lv_tableIn (off := 160) (tgt := 161) C.1 C.2.1 dX11_count_1 (by decide) (by decide) (by decide) (by decide) ?_
                          refine lv_aload_n C.1 C.2.1 dX11_count_161 rfl (lv_at hl 0 rfl) ?_
                          refine gX_0_houses C hX11_count_0_X11 hK hP mX11_count_0_17 dX11_count_162 ?_
                          refine gX_11_papers C hX11_count_0_X2 hK hP mX11_count_0_21 dX11_count_165 ?_
                          cases h
                          exact rt_i C hP hS dX11_count_168
                        · rw [if_neg c1_11] at h
                          by_cases c1_12 : x1 = 12
                          · rw [if_pos c1_12] at h
                            rw [c1_12]
                            refine lv_tableIn (off := 168) (tgt := 169) C.1 C.2.1 dX11_count_1 (by decide) (by decide) (by decide) (by decide) ?_
                            refine lv_aload_n C.1 C.2.1 dX11_count_169 rfl (lv_at hl 0 rfl) ?_
                            refine gX_0_houses C hX11_count_0_X11 hK hP mX11_count_0_17 dX11_count_170 ?_
                            refine gX_11_letters C hX11_count_0_X2 hK hP mX11_count_0_22 dX11_count_173 ?_
                            cases h
                            exact rt_i C hP hS dX11_count_176
                          · rw [if_neg c1_12] at h
                            by_cases c1_13 : x1 = 13
                            · rw [if_pos c1_13] at h
                              rw [c1_13]
                              refine lv_tableIn (off := 176) (tgt := 177) C.1 C.2.1 dX11_count_1 (by decide) (by decide) (by decide) (by decide) ?_
                              refine lv_aload_n C.1 C.2.1 dX11_count_177 rfl (lv_at hl 0 rfl) ?_
                              refine gX_0_tape C hX11_count_0_X11 hK hP mX11_count_0_23 dX11_count_178 ?_
                              refine gX_1_length C hX11_count_0_X9 hK hP mX11_count_0_25 dX11_count_181 ?_
                              cases h
                              exact rt_i C hP hS dX11_count_184
                            · rw [if_neg c1_13] at h
                              have e1_0 := lv_neT c1_0 (show (0 : Int32).toInt = 0 from by decide)
                              have e1_1 := lv_neT c1_1 (show (1 : Int32).toInt = 1 from by decide)
                              have e1_2 := lv_neT c1_2 (show (2 : Int32).toInt = 2 from by decide)
                              have e1_3 := lv_neT c1_3 (show (3 : Int32).toInt = 3 from by decide)
                              have e1_4 := lv_neT c1_4 (show (4 : Int32).toInt = 4 from by decide)
                              have e1_5 := lv_neT c1_5 (show (5 : Int32).toInt = 5 from by decide)
                              have e1_6 := lv_neT c1_6 (show (6 : Int32).toInt = 6 from by decide)
                              have e1_7 := lv_neT c1_7 (show (7 : Int32).toInt = 7 from by decide)
                              have e1_8 := lv_neT c1_8 (show (8 : Int32).toInt = 8 from by decide)
                              have e1_9 := lv_neT c1_9 (show (9 : Int32).toInt = 9 from by decide)
                              have e1_10 := lv_neT c1_10 (show (10 : Int32).toInt = 10 from by decide)
                              have e1_11 := lv_neT c1_11 (show (11 : Int32).toInt = 11 from by decide)
                              have e1_12 := lv_neT c1_12 (show (12 : Int32).toInt = 12 from by decide)
                              have e1_13 := lv_neT c1_13 (show (13 : Int32).toInt = 13 from by decide)
                              refine lv_tableOut (tgt := 185) C.1 C.2.1 dX11_count_1 (by omega) (by decide) ?_
                              refine lv_iconst (v := (-1)) C.1 C.2.1 dX11_count_185 (by decide) ?_
                              cases h
                              exact rt_i C hP hS dX11_count_186
theorem metX11_count_0 (l : Launch) (D : va_G) (cy : Nat → ClassId) (ad st : Nat → Nat) (hJ : JX ad st) (sz : Nat) (x1 : Int32) {u : SX} {r : Int32} {u' : SX} (h : fX11_count_0 x1 u = some (r, u')) : Met l yX11_count wsX11_count rmX11_count_0 (va_Pc [.ref (ad 0), .int x1] (Px D [(cy 0, .int), (cy 1, .long), (cy 2, .boolean), (cy 3, .byte), (cy 4, .object "HissHorn$Text")] st (VX cy ad st) sz u)) (Qi D (VX cy ad st) (AX ad) sz r u') 0 0 (Ax (AX ad) sz) := by
  refine Met.ofW (cc := cX11_count) (maxL := 2) (ret := (some .int)) (by decide) rfl ?_
  intro p e s m args below meth c s₁ B hml hv
  obtain ⟨rfl, hsz, hP, hK⟩ := hv
  subst hsz
  have C : Cx RX11 cX11_count 2 (some .int) wsX11_count p s m _ meth c := ⟨B.exec, B.bytes, hml, B.returns, findClass_of_methodNamed B.named, atoms_spec (ws := wsX11_count) B.pre, B.notSynchronized⟩
  have hl := lv_entry ([.ref (ad 0), .int x1]) (n := 2) (Nat.le_of_ble_eq_true rfl)
  rw [lg_entry_eq]
  exact wX11_count_0 C hK hJ x1 h hP va_S.rf hl
