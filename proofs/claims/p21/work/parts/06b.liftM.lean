set_option maxRecDepth 20000 in
theorem ggX12_sum_X12_within : GoodIn wsX12_sum wsX12_within := goodIn_r _ [16, 17, 18, 19, 20, 21, 22, 23, 24, 25] rfl (by decide +kernel)
set_option maxRecDepth 20000 in
theorem gX12_sum_X12_within : GoodIn wsX12_sum (va_wsS RX12 230 yX12_within wsX12_within) := goodIn_app (goodIn_of _ (by decide +kernel)) ggX12_sum_X12_within
theorem zdX12_sum_77 : (and (and (and (and (and (zk cX12_sum 77 (.invokestatic 230) 3) (zk cX12_sum 80 (.istore_n 1) 1)) (and (zk cX12_sum 81 (.goto (-76)) 3) (zk cX12_sum 45 (.istore_n 2) 1))) (and (and (zk cX12_sum 46 (.aload_n 0) 1) (zk cX12_sum 47 (.dup) 1)) (and (zk cX12_sum 48 (.getfield 173) 3) (zk cX12_sum 51 (.iconst 1) 1)))) (and (and (and (zk cX12_sum 52 (.iadd) 1) (zk cX12_sum 53 (.putfield 173) 3)) (and (zk cX12_sum 56 (.aload_n 0) 1) (zk cX12_sum 57 (.invokevirtual 234) 3))) (and (and (zk cX12_sum 60 (.i2l) 1) (zk cX12_sum 61 (.lstore_n 3) 1)) (and (zk cX12_sum 62 (.iload_n 2) 1) (zk cX12_sum 63 (.ifCond .eq 10) 3))))) (and (and (and (and (zk cX12_sum 73 (.iload_n 1) 1) (zk cX12_sum 74 (.i2l) 1)) (and (zk cX12_sum 75 (.lload_n 3) 1) (zk cX12_sum 76 (.lsub) 1))) (and (and (zk cX12_sum 66 (.iload_n 1) 1) (zk cX12_sum 67 (.i2l) 1)) (and (zk cX12_sum 68 (.lload_n 3) 1) (zk cX12_sum 69 (.ladd) 1)))) (and (and (and (zk cX12_sum 70 (.goto 7) 3) (zk cX12_sum 31 (.aload_n 0) 1)) (and (zk cX12_sum 32 (.invokevirtual 192) 3) (zk cX12_sum 35 (.bipush 43) 2))) (and (and (zk cX12_sum 37 (.if_icmp .ne 7) 3) (zk cX12_sum 44 (.iconst 0) 1)) (and (zk cX12_sum 40 (.iconst 1) 1) (zk cX12_sum 41 (.goto 4) 3)))))) = true := by decide +kernel
theorem dX12_sum_77 : decode cX12_sum 77 = .ok (.invokestatic 230, 3) := zk_of (zk_l (zk_l (zk_l (zk_l (zk_l zdX12_sum_77)))))
theorem dX12_sum_80 : decode cX12_sum 80 = .ok (.istore_n 1, 1) := zk_of (zk_r (zk_l (zk_l (zk_l (zk_l zdX12_sum_77)))))
theorem dX12_sum_81 : decode cX12_sum 81 = .ok (.goto (-76), 3) := zk_of (zk_l (zk_r (zk_l (zk_l (zk_l zdX12_sum_77)))))
theorem dX12_sum_45 : decode cX12_sum 45 = .ok (.istore_n 2, 1) := zk_of (zk_r (zk_r (zk_l (zk_l (zk_l zdX12_sum_77)))))
theorem dX12_sum_46 : decode cX12_sum 46 = .ok (.aload_n 0, 1) := zk_of (zk_l (zk_l (zk_r (zk_l (zk_l zdX12_sum_77)))))
theorem dX12_sum_47 : decode cX12_sum 47 = .ok (.dup, 1) := zk_of (zk_r (zk_l (zk_r (zk_l (zk_l zdX12_sum_77)))))
theorem dX12_sum_48 : decode cX12_sum 48 = .ok (.getfield 173, 3) := zk_of (zk_l (zk_r (zk_r (zk_l (zk_l zdX12_sum_77)))))
theorem dX12_sum_51 : decode cX12_sum 51 = .ok (.iconst 1, 1) := zk_of (zk_r (zk_r (zk_r (zk_l (zk_l zdX12_sum_77)))))
theorem dX12_sum_52 : decode cX12_sum 52 = .ok (.iadd, 1) := zk_of (zk_l (zk_l (zk_l (zk_r (zk_l zdX12_sum_77)))))
theorem dX12_sum_53 : decode cX12_sum 53 = .ok (.putfield 173, 3) := zk_of (zk_r (zk_l (zk_l (zk_r (zk_l zdX12_sum_77)))))
theorem dX12_sum_56 : decode cX12_sum 56 = .ok (.aload_n 0, 1) := zk_of (zk_l (zk_r (zk_l (zk_r (zk_l zdX12_sum_77)))))
theorem dX12_sum_57 : decode cX12_sum 57 = .ok (.invokevirtual 234, 3) := zk_of (zk_r (zk_r (zk_l (zk_r (zk_l zdX12_sum_77)))))
theorem dX12_sum_60 : decode cX12_sum 60 = .ok (.i2l, 1) := zk_of (zk_l (zk_l (zk_r (zk_r (zk_l zdX12_sum_77)))))
theorem dX12_sum_61 : decode cX12_sum 61 = .ok (.lstore_n 3, 1) := zk_of (zk_r (zk_l (zk_r (zk_r (zk_l zdX12_sum_77)))))
theorem dX12_sum_62 : decode cX12_sum 62 = .ok (.iload_n 2, 1) := zk_of (zk_l (zk_r (zk_r (zk_r (zk_l zdX12_sum_77)))))
theorem dX12_sum_63 : decode cX12_sum 63 = .ok (.ifCond .eq 10, 3) := zk_of (zk_r (zk_r (zk_r (zk_r (zk_l zdX12_sum_77)))))
theorem dX12_sum_73 : decode cX12_sum 73 = .ok (.iload_n 1, 1) := zk_of (zk_l (zk_l (zk_l (zk_l (zk_r zdX12_sum_77)))))
theorem dX12_sum_74 : decode cX12_sum 74 = .ok (.i2l, 1) := zk_of (zk_r (zk_l (zk_l (zk_l (zk_r zdX12_sum_77)))))
theorem dX12_sum_75 : decode cX12_sum 75 = .ok (.lload_n 3, 1) := zk_of (zk_l (zk_r (zk_l (zk_l (zk_r zdX12_sum_77)))))
theorem dX12_sum_76 : decode cX12_sum 76 = .ok (.lsub, 1) := zk_of (zk_r (zk_r (zk_l (zk_l (zk_r zdX12_sum_77)))))
theorem dX12_sum_66 : decode cX12_sum 66 = .ok (.iload_n 1, 1) := zk_of (zk_l (zk_l (zk_r (zk_l (zk_r zdX12_sum_77)))))
theorem dX12_sum_67 : decode cX12_sum 67 = .ok (.i2l, 1) := zk_of (zk_r (zk_l (zk_r (zk_l (zk_r zdX12_sum_77)))))
theorem dX12_sum_68 : decode cX12_sum 68 = .ok (.lload_n 3, 1) := zk_of (zk_l (zk_r (zk_r (zk_l (zk_r zdX12_sum_77)))))
theorem dX12_sum_69 : decode cX12_sum 69 = .ok (.ladd, 1) := zk_of (zk_r (zk_r (zk_r (zk_l (zk_r zdX12_sum_77)))))
theorem dX12_sum_70 : decode cX12_sum 70 = .ok (.goto 7, 3) := zk_of (zk_l (zk_l (zk_l (zk_r (zk_r zdX12_sum_77)))))
theorem dX12_sum_31 : decode cX12_sum 31 = .ok (.aload_n 0, 1) := zk_of (zk_r (zk_l (zk_l (zk_r (zk_r zdX12_sum_77)))))
theorem dX12_sum_32 : decode cX12_sum 32 = .ok (.invokevirtual 192, 3) := zk_of (zk_l (zk_r (zk_l (zk_r (zk_r zdX12_sum_77)))))
theorem dX12_sum_35 : decode cX12_sum 35 = .ok (.bipush 43, 2) := zk_of (zk_r (zk_r (zk_l (zk_r (zk_r zdX12_sum_77)))))
theorem dX12_sum_37 : decode cX12_sum 37 = .ok (.if_icmp .ne 7, 3) := zk_of (zk_l (zk_l (zk_r (zk_r (zk_r zdX12_sum_77)))))
theorem dX12_sum_44 : decode cX12_sum 44 = .ok (.iconst 0, 1) := zk_of (zk_r (zk_l (zk_r (zk_r (zk_r zdX12_sum_77)))))
theorem dX12_sum_40 : decode cX12_sum 40 = .ok (.iconst 1, 1) := zk_of (zk_l (zk_r (zk_r (zk_r (zk_r zdX12_sum_77)))))
theorem dX12_sum_41 : decode cX12_sum 41 = .ok (.goto 4, 3) := zk_of (zk_r (zk_r (zk_r (zk_r (zk_r zdX12_sum_77)))))
set_option maxRecDepth 20000 in
theorem ggX12_sum_X12_term : GoodIn wsX12_sum wsX12_term := goodIn_r _ [137, 1, 2, 138, 139, 140, 6, 7, 8, 9, 10, 11, 12, 13, 14, 15, 16, 17, 18, 19, 20, 21, 22, 23, 24, 25, 26, 27, 28, 29, 30, 31, 32, 33, 34, 35, 36, 37, 38, 39, 40, 41, 42, 43, 44, 45, 46, 47, 48, 49, 50, 51, 52, 53, 54, 55, 56, 57, 58, 59, 60, 61, 62, 63, 64, 65, 66, 67, 68, 69, 70, 71, 72, 73, 74, 75, 76, 77, 78, 79, 80, 81, 82, 83, 84, 85, 86, 87, 88, 89, 90, 91, 92, 93, 94, 95, 96, 97, 98, 99, 100, 101, 102, 103, 104, 105, 106, 107, 108, 109, 110, 111, 112, 113, 114, 115, 116, 117, 118, 119, 120, 121, 122, 123, 124, 125, 126, 127, 128, 129, 130, 131, 132, 133, 134, 135, 136, 0, 3, 4, 5, 141, 142, 143, 144, 145, 146, 147, 148, 149, 150, 151, 152, 153, 154, 155, 156, 157, 158, 159, 160, 161, 162, 163, 164, 165, 166, 167, 168, 169, 170, 171, 172, 173, 174, 175, 176, 177, 178, 179, 180, 181, 182, 183, 184, 185, 186, 187, 188, 189, 190, 191, 192, 193, 194, 195, 196, 197, 198, 199, 200, 201, 202, 203, 204, 205, 206, 207, 208, 209] rfl (by decide +kernel)
set_option maxRecDepth 20000 in
theorem gX12_sum_X12_term : GoodIn wsX12_sum (wsV RX12 234 RX12 yX12_term wsX12_term) := goodIn_app (goodIn_of _ (by decide +kernel)) ggX12_sum_X12_term
set_option maxRecDepth 20000 in
theorem ggX12_sum_X12_look : GoodIn wsX12_sum wsX12_look := goodIn_r _ [10, 2, 11, 12, 13, 141, 142, 143, 144, 145, 146, 147, 148, 149, 150, 151, 152, 153, 154, 155, 156, 157, 158, 159, 160, 161, 162, 163, 164, 165, 166, 167, 168, 169, 170, 171, 172, 173, 174, 175, 176, 177, 178, 179, 180, 181, 182, 183, 184, 185, 186, 187, 188, 189, 190, 191, 192, 193, 194, 195, 196, 197, 198, 199, 200, 201, 202, 203, 204, 205, 206, 207, 208, 209] rfl (by decide +kernel)
set_option maxRecDepth 20000 in
theorem gX12_sum_X12_look : GoodIn wsX12_sum (wsV RX12 192 RX12 yX12_look wsX12_look) := goodIn_app (goodIn_of _ (by decide +kernel)) ggX12_sum_X12_look
theorem zdX12_sum_5 : (and (and (and (and (and (zk cX12_sum 5 (.aload_n 0) 1) (zk cX12_sum 6 (.getfield 182) 3)) (zk cX12_sum 9 (.iconst (-1)) 1)) (and (zk cX12_sum 10 (.if_icmp .ne 74) 3) (zk cX12_sum 84 (.iload_n 1) 1))) (and (and (zk cX12_sum 85 (.ireturn) 1) (zk cX12_sum 13 (.aload_n 0) 1)) (and (zk cX12_sum 14 (.invokevirtual 192) 3) (zk cX12_sum 17 (.bipush 43) 2)))) (and (and (and (zk cX12_sum 19 (.if_icmp .eq 12) 3) (zk cX12_sum 22 (.aload_n 0) 1)) (and (zk cX12_sum 23 (.invokevirtual 192) 3) (zk cX12_sum 26 (.bipush 45) 2))) (and (and (zk cX12_sum 28 (.if_icmp .ne 56) 3) (zk cX12_sum 0 (.aload_n 0) 1)) (and (zk cX12_sum 1 (.invokevirtual 234) 3) (zk cX12_sum 4 (.istore_n 1) 1))))) = true := by decide +kernel
theorem dX12_sum_5 : decode cX12_sum 5 = .ok (.aload_n 0, 1) := zk_of (zk_l (zk_l (zk_l (zk_l (zk_l zdX12_sum_5)))))
theorem dX12_sum_6 : decode cX12_sum 6 = .ok (.getfield 182, 3) := zk_of (zk_r (zk_l (zk_l (zk_l (zk_l zdX12_sum_5)))))
theorem dX12_sum_9 : decode cX12_sum 9 = .ok (.iconst (-1), 1) := zk_of (zk_r (zk_l (zk_l (zk_l zdX12_sum_5))))
theorem dX12_sum_10 : decode cX12_sum 10 = .ok (.if_icmp .ne 74, 3) := zk_of (zk_l (zk_r (zk_l (zk_l zdX12_sum_5))))
theorem dX12_sum_84 : decode cX12_sum 84 = .ok (.iload_n 1, 1) := zk_of (zk_r (zk_r (zk_l (zk_l zdX12_sum_5))))
theorem dX12_sum_85 : decode cX12_sum 85 = .ok (.ireturn, 1) := zk_of (zk_l (zk_l (zk_r (zk_l zdX12_sum_5))))
theorem dX12_sum_13 : decode cX12_sum 13 = .ok (.aload_n 0, 1) := zk_of (zk_r (zk_l (zk_r (zk_l zdX12_sum_5))))
theorem dX12_sum_14 : decode cX12_sum 14 = .ok (.invokevirtual 192, 3) := zk_of (zk_l (zk_r (zk_r (zk_l zdX12_sum_5))))
theorem dX12_sum_17 : decode cX12_sum 17 = .ok (.bipush 43, 2) := zk_of (zk_r (zk_r (zk_r (zk_l zdX12_sum_5))))
theorem dX12_sum_19 : decode cX12_sum 19 = .ok (.if_icmp .eq 12, 3) := zk_of (zk_l (zk_l (zk_l (zk_r zdX12_sum_5))))
theorem dX12_sum_22 : decode cX12_sum 22 = .ok (.aload_n 0, 1) := zk_of (zk_r (zk_l (zk_l (zk_r zdX12_sum_5))))
theorem dX12_sum_23 : decode cX12_sum 23 = .ok (.invokevirtual 192, 3) := zk_of (zk_l (zk_r (zk_l (zk_r zdX12_sum_5))))
theorem dX12_sum_26 : decode cX12_sum 26 = .ok (.bipush 45, 2) := zk_of (zk_r (zk_r (zk_l (zk_r zdX12_sum_5))))
theorem dX12_sum_28 : decode cX12_sum 28 = .ok (.if_icmp .ne 56, 3) := zk_of (zk_l (zk_l (zk_r (zk_r zdX12_sum_5))))
theorem dX12_sum_0 : decode cX12_sum 0 = .ok (.aload_n 0, 1) := zk_of (zk_r (zk_l (zk_r (zk_r zdX12_sum_5))))
theorem dX12_sum_1 : decode cX12_sum 1 = .ok (.invokevirtual 234, 3) := zk_of (zk_l (zk_r (zk_r (zk_r zdX12_sum_5))))
theorem dX12_sum_4 : decode cX12_sum 4 = .ok (.istore_n 1, 1) := zk_of (zk_r (zk_r (zk_r (zk_r zdX12_sum_5))))
/-- HissHornModel.sum()I of cell 0 -/
theorem hX12_sum_0_X12 : ∀ w ∈ u_ws RX12 TX12 69, w ∈ wsX12_sum := fun w h => (List.mem_cons_of_mem _ (List.mem_append_right _ h))
theorem mX12_sum_0_1 : Cond.fieldLink RX12 182 "HissHornModel" "fault" "I" ∈ wsX12_sum := (List.mem_cons_of_mem _ (List.mem_append_left _ (List.mem_append_left _ (List.mem_of_getElem? (i := 0) rfl))))
theorem mX12_sum_0_2 : Cond.fieldLink RX12 173 "HissHornModel" "at" "I" ∈ wsX12_sum := (List.mem_cons_of_mem _ (List.mem_append_left _ (List.mem_append_left _ (List.mem_of_getElem? (i := 1) rfl))))
def GX12_sum_0_77 (rc : Nat → Int32 → SX → Option (Int32 × SX)) (k5 : Int32 → SX → Option (Int32 × SX)) (y0 : Int64) (u : SX) : Option (Int32 × SX) := ((fX12_within y0).bind fun r17 => (k5 r17 u))
def GX12_sum_0_45 (rc : Nat → Int32 → SX → Option (Int32 × SX)) (k5 : Int32 → SX → Option (Int32 × SX)) (z1 : Int32) (y0 : Int32) (u : SX) : Option (Int32 × SX) := (lt (sI u 6 ((u.1 6) + 1)) fun u10 => ((rc 1  0 u10).bind fun q => match q with | (r12, u13) => (lt (r12.toInt64) fun v15 => (if y0 = 0 then (GX12_sum_0_77 rc k5 ((z1.toInt64) - v15) u13) else (GX12_sum_0_77 rc k5 ((z1.toInt64) + v15) u13)))))
def GX12_sum_0_31 (rc : Nat → Int32 → SX → Option (Int32 × SX)) (k5 : Int32 → SX → Option (Int32 × SX)) (z1 : Int32) (u : SX) : Option (Int32 × SX) := ((fX12_look_0  u).bind fun q => match q with | (r7, u8) => (if r7 = 43 then (GX12_sum_0_45 rc k5 z1 1 u8) else (GX12_sum_0_45 rc k5 z1 0 u8)))
def LX12_sum_0_5 (rc : Nat → Int32 → SX → Option (Int32 × SX))  : Nat → Int32 → SX → Option (Int32 × SX)
  | 0, _, _ => none
  | n + 1, z1, u => (if (u.1 7) = (-1) then ((fX12_look_0  u).bind fun q => match q with | (r4, u5) => (if r4 = 43 then (GX12_sum_0_31 rc (LX12_sum_0_5 rc n) z1 u5) else ((fX12_look_0  u5).bind fun q => match q with | (r20, u21) => (if r20 = 45 then (GX12_sum_0_31 rc (LX12_sum_0_5 rc n) z1 u21) else (some (z1, u21)))))) else (some (z1, u)))
def fX12_sum_0 (rc : Nat → Int32 → SX → Option (Int32 × SX))  (u : SX) : Option (Int32 × SX) := ((rc 1  0 u).bind fun q => match q with | (r1, u2) => (LX12_sum_0_5 rc  5000 r1 u2))
set_option maxHeartbeats 4000000 in
set_option maxRecDepth 100000 in
theorem wGX12_sum_0_77 {p : Program} {l : Launch} {e : Env} {s : State} {m : MethodId} {args : Array Value} {below : List Frame} {meth : Method} {c : Code} {D : va_G} {cy : Nat → ClassId} {ad st : Nat → Nat} (C : Cx RX12 cX12_sum 5 (some .int) wsX12_sum p s m args meth c) (hK : Ky D [(cy 0, .int), (cy 1, .long), (cy 2, .boolean), (cy 3, .byte), (cy 4, .object "HissHorn$Text")] st s) (hJ : JM ad st) {rc : Nat → Int32 → SX → Option (Int32 × SX)} {dd : Nat} (hrc : hRX12sumg l D cy ad st rc dd) {r : Int32} {u' : SX} {k5 : Int32 → SX → Option (Int32 × SX)} (hk5 : ∀ (z1 : Int32) (u : SX) (H : Heap) (locs : List Loc) (ls : Array Slot), k5 z1 u = some (r, u') → va_P D vwCl (VM cy ad st u) H → va_S (Ax (AM ad) s.heap.size) s.heap H locs → lv_has ls 5 [(0, .ref (ad 0)), (1, .int z1)] → W p l e (rmX12sumg (dd + 1)) s m args below meth c H locs 0 0 (MQ below (Qi D (VM cy ad st) (AM ad) s.heap.size r u') args s 0 0 (Ax (AM ad) s.heap.size)) (F0 m 5 ls [])) (y0 : Int64) (u : SX) (H : Heap) (locs : List Loc) (ls : Array Slot) (h : GX12_sum_0_77 rc k5 y0 u = some (r, u')) (hP : va_P D vwCl (VM cy ad st u) H) (hS : va_S (Ax (AM ad) s.heap.size) s.heap H locs) (hl : lv_has ls 5 [(0, .ref (ad 0))]) : W p l e (rmX12sumg (dd + 1)) s m args below meth c H locs 0 0 (MQ below (Qi D (VM cy ad st) (AM ad) s.heap.size r u') args s 0 0 (Ax (AM ad) s.heap.size)) (F0 m 77 ls [.long y0]) := by
  unfold GX12_sum_0_77 at h
  obtain ⟨r17, hc19, h⟩ := bd_some h
  refine cs_i (As := [.long y0]) (rest := []) (AM_ge hJ) C hK hP hS (metX12_within l D cy st _ y0 hc19) (va_cwS 1 C.2.2.2.2.2.1 gX12_sum_X12_within rfl rfl rfl (by decide +kernel) ⟨(Nat.le_trans (m := 4) (Nat.le_of_ble_eq_true rfl) (rmX12sumg_f _)), (Nat.le_trans (m := 91) (Nat.le_of_ble_eq_true rfl) (rmX12sumg_l _))⟩) rfl hl.1 rfl (Nat.le_of_ble_eq_true rfl) dX12_sum_77 ⟨Nat.zero_le _, Nat.zero_le _⟩ (fun H locs hP hS => ?_)
  refine lv_istore_n (lv' := [(1, .int r17), (0, .ref (ad 0))]) C.1 C.2.1 dX12_sum_80 rfl hl (by decide) rfl (fun ls hl => ?_)
  replace hl := lv_sub (l' := [(0, .ref (ad 0)), (1, .int r17)]) hl [1, 0] rfl
  refine lv_goto (tgt := 5) C.1 C.2.1 dX12_sum_81 (by decide) ?_
  exact hk5 _ _ _ _ _ h hP hS hl
set_option maxHeartbeats 4000000 in
set_option maxRecDepth 100000 in
theorem wGX12_sum_0_45 {p : Program} {l : Launch} {e : Env} {s : State} {m : MethodId} {args : Array Value} {below : List Frame} {meth : Method} {c : Code} {D : va_G} {cy : Nat → ClassId} {ad st : Nat → Nat} (C : Cx RX12 cX12_sum 5 (some .int) wsX12_sum p s m args meth c) (hK : Ky D [(cy 0, .int), (cy 1, .long), (cy 2, .boolean), (cy 3, .byte), (cy 4, .object "HissHorn$Text")] st s) (hJ : JM ad st) {rc : Nat → Int32 → SX → Option (Int32 × SX)} {dd : Nat} (hrc : hRX12sumg l D cy ad st rc dd) {r : Int32} {u' : SX} {k5 : Int32 → SX → Option (Int32 × SX)} (hk5 : ∀ (z1 : Int32) (u : SX) (H : Heap) (locs : List Loc) (ls : Array Slot), k5 z1 u = some (r, u') → va_P D vwCl (VM cy ad st u) H → va_S (Ax (AM ad) s.heap.size) s.heap H locs → lv_has ls 5 [(0, .ref (ad 0)), (1, .int z1)] → W p l e (rmX12sumg (dd + 1)) s m args below meth c H locs 0 0 (MQ below (Qi D (VM cy ad st) (AM ad) s.heap.size r u') args s 0 0 (Ax (AM ad) s.heap.size)) (F0 m 5 ls [])) (z1 : Int32) (y0 : Int32) (u : SX) (H : Heap) (locs : List Loc) (ls : Array Slot) (h : GX12_sum_0_45 rc k5 z1 y0 u = some (r, u')) (hP : va_P D vwCl (VM cy ad st u) H) (hS : va_S (Ax (AM ad) s.heap.size) s.heap H locs) (hl : lv_has ls 5 [(0, .ref (ad 0)), (1, .int z1)]) : W p l e (rmX12sumg (dd + 1)) s m args below meth c H locs 0 0 (MQ below (Qi D (VM cy ad st) (AM ad) s.heap.size r u') args s 0 0 (Ax (AM ad) s.heap.size)) (F0 m 45 ls [.int y0]) := by
  unfold GX12_sum_0_45 at h
  refine lv_istore_n (lv' := [(2, .int y0), (0, .ref (ad 0)), (1, .int z1)]) C.1 C.2.1 dX12_sum_45 rfl hl (by decide) rfl (fun ls hl => ?_)
  replace hl := lv_sub (l' := [(0, .ref (ad 0)), (1, .int z1), (2, .int y0)]) hl [1, 2, 0] rfl
  refine lv_aload_n C.1 C.2.1 dX12_sum_46 rfl (lv_at hl 0 rfl) ?_
  refine lv_dup C.1 C.2.1 dX12_sum_47 rfl ?_
  refine gM_0_at C hX12_sum_0_X12 hK hP mX12_sum_0_2 dX12_sum_48 ?_
  refine lv_iconst (v := 1) C.1 C.2.1 dX12_sum_51 (by decide) ?_
  refine lv_iadd C.1 C.2.1 dX12_sum_52 ?_
  refine pM_0_at C hX12_sum_0_X12 hK hP hJ hS mX12_sum_0_2 dX12_sum_53 (fun H locs hP hS => ?_)
  obtain ⟨u10, hu11, h⟩ := lt_some h
  rw [← hu11] at hP
  refine lv_aload_n C.1 C.2.1 dX12_sum_56 rfl (lv_at hl 0 rfl) ?_
  obtain ⟨⟨r12, u13⟩, hc14, h⟩ := bd_some h
  try dsimp only at h
  refine cg_i (As := []) (rest := []) (AM_ge hJ) C hK hP hS (hrc.2.1 _  _ _ _ hc14) (cwV 0 C.2.2.2.2.2.1 gX12_sum_X12_term rfl rfl rfl (by decide +kernel) ⟨rmX12sumg_sf dd, rmX12sumg_sl dd (k := 8 + (5 + 11)) (Nat.le_of_ble_eq_true rfl)⟩) 0 12 rfl rfl rfl hl.1 rfl (Nat.le_of_ble_eq_true rfl) dX12_sum_57 ⟨Nat.zero_le _, Nat.zero_le _⟩ (fun H locs hP hS => ?_)
  refine lv_i2l (v := r12.toInt64) C.1 C.2.1 dX12_sum_60 rfl ?_
  refine lv_topl (fun v15 hv16 => ?_)
  replace h := lt_e hv16 h
  try dsimp only at h
  refine lv_lstore_n (lv' := [(3, .long v15), (0, .ref (ad 0)), (1, .int z1), (2, .int y0)]) C.1 C.2.1 dX12_sum_61 rfl hl (by decide) rfl (fun ls hl => ?_)
  replace hl := lv_sub (l' := [(0, .ref (ad 0)), (1, .int z1), (2, .int y0), (3, .long v15)]) hl [1, 2, 3, 0] rfl
  refine lv_iload_n C.1 C.2.1 dX12_sum_62 rfl (lv_at hl 2 rfl) ?_
  refine lv_if_eq (tgt := 73) C.1 C.2.1 dX12_sum_63 (by decide) (fun c63 => ?_) (fun c63 => ?_)
  · rw [if_pos c63] at h
    refine lv_iload_n C.1 C.2.1 dX12_sum_73 rfl (lv_at hl 1 rfl) ?_
    refine lv_i2l (v := z1.toInt64) C.1 C.2.1 dX12_sum_74 rfl ?_
    refine lv_lload_n C.1 C.2.1 dX12_sum_75 rfl (lv_at hl 3 rfl) ?_
    refine lv_lsub C.1 C.2.1 dX12_sum_76 ?_
    exact wGX12_sum_0_77 C hK hJ hrc hk5 _ _ _ _ _ h hP hS (lv_sub hl [0] rfl)
  · rw [if_neg c63] at h
    refine lv_iload_n C.1 C.2.1 dX12_sum_66 rfl (lv_at hl 1 rfl) ?_
    refine lv_i2l (v := z1.toInt64) C.1 C.2.1 dX12_sum_67 rfl ?_
    refine lv_lload_n C.1 C.2.1 dX12_sum_68 rfl (lv_at hl 3 rfl) ?_
    refine lv_ladd C.1 C.2.1 dX12_sum_69 ?_
    refine lv_goto (tgt := 77) C.1 C.2.1 dX12_sum_70 (by decide) ?_
    exact wGX12_sum_0_77 C hK hJ hrc hk5 _ _ _ _ _ h hP hS (lv_sub hl [0] rfl)
set_option maxHeartbeats 4000000 in
set_option maxRecDepth 100000 in
theorem wGX12_sum_0_31 {p : Program} {l : Launch} {e : Env} {s : State} {m : MethodId} {args : Array Value} {below : List Frame} {meth : Method} {c : Code} {D : va_G} {cy : Nat → ClassId} {ad st : Nat → Nat} (C : Cx RX12 cX12_sum 5 (some .int) wsX12_sum p s m args meth c) (hK : Ky D [(cy 0, .int), (cy 1, .long), (cy 2, .boolean), (cy 3, .byte), (cy 4, .object "HissHorn$Text")] st s) (hJ : JM ad st) {rc : Nat → Int32 → SX → Option (Int32 × SX)} {dd : Nat} (hrc : hRX12sumg l D cy ad st rc dd) {r : Int32} {u' : SX} {k5 : Int32 → SX → Option (Int32 × SX)} (hk5 : ∀ (z1 : Int32) (u : SX) (H : Heap) (locs : List Loc) (ls : Array Slot), k5 z1 u = some (r, u') → va_P D vwCl (VM cy ad st u) H → va_S (Ax (AM ad) s.heap.size) s.heap H locs → lv_has ls 5 [(0, .ref (ad 0)), (1, .int z1)] → W p l e (rmX12sumg (dd + 1)) s m args below meth c H locs 0 0 (MQ below (Qi D (VM cy ad st) (AM ad) s.heap.size r u') args s 0 0 (Ax (AM ad) s.heap.size)) (F0 m 5 ls [])) (z1 : Int32) (u : SX) (H : Heap) (locs : List Loc) (ls : Array Slot) (h : GX12_sum_0_31 rc k5 z1 u = some (r, u')) (hP : va_P D vwCl (VM cy ad st u) H) (hS : va_S (Ax (AM ad) s.heap.size) s.heap H locs) (hl : lv_has ls 5 [(0, .ref (ad 0)), (1, .int z1)]) : W p l e (rmX12sumg (dd + 1)) s m args below meth c H locs 0 0 (MQ below (Qi D (VM cy ad st) (AM ad) s.heap.size r u') args s 0 0 (Ax (AM ad) s.heap.size)) (F0 m 31 ls []) := by
  unfold GX12_sum_0_31 at h
  refine lv_aload_n C.1 C.2.1 dX12_sum_31 rfl (lv_at hl 0 rfl) ?_
  obtain ⟨⟨r7, u8⟩, hc9, h⟩ := bd_some h
  try dsimp only at h
  refine cg_i (As := []) (rest := []) (AM_ge hJ) C hK hP hS (metX12_look_0 l D cy ad st hJ _  hc9) (cwV 0 C.2.2.2.2.2.1 gX12_sum_X12_look rfl rfl rfl (by decide +kernel) ⟨(Nat.le_trans (m := 4) (Nat.le_of_ble_eq_true rfl) (rmX12sumg_f _)), (Nat.le_trans (m := 91) (Nat.le_of_ble_eq_true rfl) (rmX12sumg_l _))⟩) 0 12 rfl rfl rfl hl.1 rfl (Nat.le_of_ble_eq_true rfl) dX12_sum_32 ⟨Nat.zero_le _, Nat.zero_le _⟩ (fun H locs hP hS => ?_)
  refine lv_bipush (v := 43) C.1 C.2.1 dX12_sum_35 (by decide) ?_
  refine lv_icmp_ne (tgt := 44) C.1 C.2.1 dX12_sum_37 (by decide) (fun c37 => ?_) (fun c37 => ?_)
  · rw [if_neg c37] at h
    refine lv_iconst (v := 0) C.1 C.2.1 dX12_sum_44 (by decide) ?_
    exact wGX12_sum_0_45 C hK hJ hrc hk5 _ _ _ _ _ _ h hP hS hl
  · rw [if_pos c37] at h
    refine lv_iconst (v := 1) C.1 C.2.1 dX12_sum_40 (by decide) ?_
    refine lv_goto (tgt := 45) C.1 C.2.1 dX12_sum_41 (by decide) ?_
    exact wGX12_sum_0_45 C hK hJ hrc hk5 _ _ _ _ _ _ h hP hS hl
set_option maxHeartbeats 4000000 in
set_option maxRecDepth 100000 in
theorem wLX12_sum_0_5 {p : Program} {l : Launch} {e : Env} {s : State} {m : MethodId} {args : Array Value} {below : List Frame} {meth : Method} {c : Code} {D : va_G} {cy : Nat → ClassId} {ad st : Nat → Nat} (C : Cx RX12 cX12_sum 5 (some .int) wsX12_sum p s m args meth c) (hK : Ky D [(cy 0, .int), (cy 1, .long), (cy 2, .boolean), (cy 3, .byte), (cy 4, .object "HissHorn$Text")] st s) (hJ : JM ad st) {rc : Nat → Int32 → SX → Option (Int32 × SX)} {dd : Nat} (hrc : hRX12sumg l D cy ad st rc dd) {r : Int32} {u' : SX}   : ∀ (n : Nat) (z1 : Int32) (u : SX) (H : Heap) (locs : List Loc) (ls : Array Slot), LX12_sum_0_5 rc  n z1 u = some (r, u') → va_P D vwCl (VM cy ad st u) H → va_S (Ax (AM ad) s.heap.size) s.heap H locs → lv_has ls 5 [(0, .ref (ad 0)), (1, .int z1)] → W p l e (rmX12sumg (dd + 1)) s m args below meth c H locs 0 0 (MQ below (Qi D (VM cy ad st) (AM ad) s.heap.size r u') args s 0 0 (Ax (AM ad) s.heap.size)) (F0 m 5 ls []) := by
  intro n
  induction n with
  | zero =>
    intro z1 u H locs ls h
    exact absurd h (by intro q; cases q)
  | succ n ih =>
    intro z1 u H locs ls h hP hS hl
    rw [LX12_sum_0_5] at h
    refine lv_aload_n C.1 C.2.1 dX12_sum_5 rfl (lv_at hl 0 rfl) ?_
    refine gM_0_fault C hX12_sum_0_X12 hK hP mX12_sum_0_1 dX12_sum_6 ?_
    refine lv_iconst (v := (-1)) C.1 C.2.1 dX12_sum_9 (by decide) ?_
    refine lv_icmp_ne (tgt := 84) C.1 C.2.1 dX12_sum_10 (by decide) (fun c10 => ?_) (fun c10 => ?_)
    · rw [if_neg c10] at h
      refine lv_iload_n C.1 C.2.1 dX12_sum_84 rfl (lv_at hl 1 rfl) ?_
      cases h
      exact rt_i C hP hS dX12_sum_85
    · rw [if_pos c10] at h
      refine lv_aload_n C.1 C.2.1 dX12_sum_13 rfl (lv_at hl 0 rfl) ?_
      obtain ⟨⟨r4, u5⟩, hc6, h⟩ := bd_some h
      try dsimp only at h
      refine cg_i (As := []) (rest := []) (AM_ge hJ) C hK hP hS (metX12_look_0 l D cy ad st hJ _  hc6) (cwV 0 C.2.2.2.2.2.1 gX12_sum_X12_look rfl rfl rfl (by decide +kernel) ⟨(Nat.le_trans (m := 4) (Nat.le_of_ble_eq_true rfl) (rmX12sumg_f _)), (Nat.le_trans (m := 91) (Nat.le_of_ble_eq_true rfl) (rmX12sumg_l _))⟩) 0 12 rfl rfl rfl hl.1 rfl (Nat.le_of_ble_eq_true rfl) dX12_sum_14 ⟨Nat.zero_le _, Nat.zero_le _⟩ (fun H locs hP hS => ?_)
      refine lv_bipush (v := 43) C.1 C.2.1 dX12_sum_17 (by decide) ?_
      refine lv_icmp_eq (tgt := 31) C.1 C.2.1 dX12_sum_19 (by decide) (fun c19 => ?_) (fun c19 => ?_)
      · rw [if_pos c19] at h
        exact wGX12_sum_0_31 C hK hJ hrc ih _ _ _ _ _ h hP hS hl
      · rw [if_neg c19] at h
        refine lv_aload_n C.1 C.2.1 dX12_sum_22 rfl (lv_at hl 0 rfl) ?_
        obtain ⟨⟨r20, u21⟩, hc22, h⟩ := bd_some h
        try dsimp only at h
        refine cg_i (As := []) (rest := []) (AM_ge hJ) C hK hP hS (metX12_look_0 l D cy ad st hJ _  hc22) (cwV 0 C.2.2.2.2.2.1 gX12_sum_X12_look rfl rfl rfl (by decide +kernel) ⟨(Nat.le_trans (m := 4) (Nat.le_of_ble_eq_true rfl) (rmX12sumg_f _)), (Nat.le_trans (m := 91) (Nat.le_of_ble_eq_true rfl) (rmX12sumg_l _))⟩) 0 12 rfl rfl rfl hl.1 rfl (Nat.le_of_ble_eq_true rfl) dX12_sum_23 ⟨Nat.zero_le _, Nat.zero_le _⟩ (fun H locs hP hS => ?_)
        refine lv_bipush (v := 45) C.1 C.2.1 dX12_sum_26 (by decide) ?_
        refine lv_icmp_ne (tgt := 84) C.1 C.2.1 dX12_sum_28 (by decide) (fun c28 => ?_) (fun c28 => ?_)
        · rw [if_neg c28] at h
          refine lv_iload_n C.1 C.2.1 dX12_sum_84 rfl (lv_at hl 1 rfl) ?_
          cases h
          exact rt_i C hP hS dX12_sum_85
        · rw [if_pos c28] at h
          exact wGX12_sum_0_31 C hK hJ hrc ih _ _ _ _ _ h hP hS hl
set_option maxHeartbeats 4000000 in
set_option maxRecDepth 100000 in
theorem wX12_sum_0 {p : Program} {l : Launch} {e : Env} {s : State} {m : MethodId} {args : Array Value} {below : List Frame} {meth : Method} {c : Code} {D : va_G} {cy : Nat → ClassId} {ad st : Nat → Nat} (C : Cx RX12 cX12_sum 5 (some .int) wsX12_sum p s m args meth c) (hK : Ky D [(cy 0, .int), (cy 1, .long), (cy 2, .boolean), (cy 3, .byte), (cy 4, .object "HissHorn$Text")] st s) (hJ : JM ad st) {rc : Nat → Int32 → SX → Option (Int32 × SX)} {dd : Nat} (hrc : hRX12sumg l D cy ad st rc dd)  {u : SX} {r : Int32} {u' : SX} {H : Heap} {locs : List Loc} {ls : Array Slot} (h : fX12_sum_0 rc  u = some (r, u')) (hP : va_P D vwCl (VM cy ad st u) H) (hS : va_S (Ax (AM ad) s.heap.size) s.heap H locs) (hl : lv_has ls 5 [(0, .ref (ad 0))]) : W p l e (rmX12sumg (dd + 1)) s m args below meth c H locs 0 0 (MQ below (Qi D (VM cy ad st) (AM ad) s.heap.size r u') args s 0 0 (Ax (AM ad) s.heap.size)) (F0 m 0 ls []) := by
  unfold fX12_sum_0 at h
  refine lv_aload_n C.1 C.2.1 dX12_sum_0 rfl (lv_at hl 0 rfl) ?_
  obtain ⟨⟨r1, u2⟩, hc3, h⟩ := bd_some h
  try dsimp only at h
  refine cg_i (As := []) (rest := []) (AM_ge hJ) C hK hP hS (hrc.2.1 _  _ _ _ hc3) (cwV 0 C.2.2.2.2.2.1 gX12_sum_X12_term rfl rfl rfl (by decide +kernel) ⟨rmX12sumg_sf dd, rmX12sumg_sl dd (k := 8 + (5 + 11)) (Nat.le_of_ble_eq_true rfl)⟩) 0 12 rfl rfl rfl hl.1 rfl (Nat.le_of_ble_eq_true rfl) dX12_sum_1 ⟨Nat.zero_le _, Nat.zero_le _⟩ (fun H locs hP hS => ?_)
  refine lv_istore_n (lv' := [(1, .int r1), (0, .ref (ad 0))]) C.1 C.2.1 dX12_sum_4 rfl hl (by decide) rfl (fun ls hl => ?_)
  replace hl := lv_sub (l' := [(0, .ref (ad 0)), (1, .int r1)]) hl [1, 0] rfl
  exact wLX12_sum_0_5 C hK hJ hrc  5000 _ _ _ _ _ h hP hS hl
theorem metX12_sum_0 (l : Launch) (D : va_G) (cy : Nat → ClassId) (ad st : Nat → Nat) (hJ : JM ad st) {rc : Nat → Int32 → SX → Option (Int32 × SX)} {dd : Nat} (hrc : hRX12sumg l D cy ad st rc dd) (sz : Nat)  {u : SX} {r : Int32} {u' : SX} (h : fX12_sum_0 rc  u = some (r, u')) : Met l yX12_sum wsX12_sum (rmX12sumg (dd + 1)) (va_Pc [.ref (ad 0)] (Px D [(cy 0, .int), (cy 1, .long), (cy 2, .boolean), (cy 3, .byte), (cy 4, .object "HissHorn$Text")] st (VM cy ad st) sz u)) (Qi D (VM cy ad st) (AM ad) sz r u') 0 0 (Ax (AM ad) sz) := by
  refine Met.ofW (cc := cX12_sum) (maxL := 5) (ret := (some .int)) (by decide) rfl ?_
  intro p e s m args below meth c s₁ B hml hv
  obtain ⟨rfl, hsz, hP, hK⟩ := hv
  subst hsz
  have C : Cx RX12 cX12_sum 5 (some .int) wsX12_sum p s m _ meth c := ⟨B.exec, B.bytes, hml, B.returns, findClass_of_methodNamed B.named, atoms_spec (ws := wsX12_sum) B.pre, B.notSynchronized⟩
  have hl := lv_entry ([.ref (ad 0)]) (n := 5) (Nat.le_of_ble_eq_true rfl)
  rw [lg_entry_eq]
  exact wX12_sum_0 C hK hJ hrc h hP va_S.rf hl

set_option maxRecDepth 20000 in
theorem ggX12_term_X12_within : GoodIn wsX12_term wsX12_within := goodIn_r _ [16, 17, 18, 19, 20, 21, 22, 23, 24, 25] rfl (by decide +kernel)
set_option maxRecDepth 20000 in
theorem gX12_term_X12_within : GoodIn wsX12_term (va_wsS RX12 230 yX12_within wsX12_within) := goodIn_app (goodIn_of _ (by decide +kernel)) ggX12_term_X12_within
theorem zdX12_term_87 : (and (and (and (and (and (zk cX12_term 87 (.invokestatic 230) 3) (zk cX12_term 90 (.istore_n 1) 1)) (and (zk cX12_term 91 (.goto (-86)) 3) (zk cX12_term 45 (.istore_n 2) 1))) (and (and (zk cX12_term 46 (.aload_n 0) 1) (zk cX12_term 47 (.dup) 1)) (and (zk cX12_term 48 (.getfield 173) 3) (zk cX12_term 51 (.iconst 1) 1)))) (and (and (and (zk cX12_term 52 (.iadd) 1) (zk cX12_term 53 (.putfield 173) 3)) (and (zk cX12_term 56 (.aload_n 0) 1) (zk cX12_term 57 (.invokevirtual 227) 3))) (and (and (zk cX12_term 60 (.i2l) 1) (zk cX12_term 61 (.lstore_n 3) 1)) (and (zk cX12_term 62 (.iload_n 2) 1) (zk cX12_term 63 (.ifCond .eq 10) 3))))) (and (and (and (and (zk cX12_term 73 (.lload_n 3) 1) (zk cX12_term 74 (.lconst 0) 1)) (and (zk cX12_term 75 (.lcmp) 1) (zk cX12_term 76 (.ifCond .ne 7) 3))) (and (and (zk cX12_term 83 (.iload_n 1) 1) (zk cX12_term 84 (.i2l) 1)) (and (zk cX12_term 85 (.lload_n 3) 1) (zk cX12_term 86 (.ldiv) 1)))) (and (and (and (zk cX12_term 79 (.lconst 0) 1) (zk cX12_term 80 (.goto 7) 3)) (and (zk cX12_term 66 (.iload_n 1) 1) (zk cX12_term 67 (.i2l) 1))) (and (and (zk cX12_term 68 (.lload_n 3) 1) (zk cX12_term 69 (.lmul) 1)) (and (zk cX12_term 70 (.goto 17) 3) (zk cX12_term 31 (.aload_n 0) 1)))))) = true := by decide +kernel
theorem dX12_term_87 : decode cX12_term 87 = .ok (.invokestatic 230, 3) := zk_of (zk_l (zk_l (zk_l (zk_l (zk_l zdX12_term_87)))))
theorem dX12_term_90 : decode cX12_term 90 = .ok (.istore_n 1, 1) := zk_of (zk_r (zk_l (zk_l (zk_l (zk_l zdX12_term_87)))))
theorem dX12_term_91 : decode cX12_term 91 = .ok (.goto (-86), 3) := zk_of (zk_l (zk_r (zk_l (zk_l (zk_l zdX12_term_87)))))
theorem dX12_term_45 : decode cX12_term 45 = .ok (.istore_n 2, 1) := zk_of (zk_r (zk_r (zk_l (zk_l (zk_l zdX12_term_87)))))
theorem dX12_term_46 : decode cX12_term 46 = .ok (.aload_n 0, 1) := zk_of (zk_l (zk_l (zk_r (zk_l (zk_l zdX12_term_87)))))
theorem dX12_term_47 : decode cX12_term 47 = .ok (.dup, 1) := zk_of (zk_r (zk_l (zk_r (zk_l (zk_l zdX12_term_87)))))
theorem dX12_term_48 : decode cX12_term 48 = .ok (.getfield 173, 3) := zk_of (zk_l (zk_r (zk_r (zk_l (zk_l zdX12_term_87)))))
theorem dX12_term_51 : decode cX12_term 51 = .ok (.iconst 1, 1) := zk_of (zk_r (zk_r (zk_r (zk_l (zk_l zdX12_term_87)))))
theorem dX12_term_52 : decode cX12_term 52 = .ok (.iadd, 1) := zk_of (zk_l (zk_l (zk_l (zk_r (zk_l zdX12_term_87)))))
theorem dX12_term_53 : decode cX12_term 53 = .ok (.putfield 173, 3) := zk_of (zk_r (zk_l (zk_l (zk_r (zk_l zdX12_term_87)))))
theorem dX12_term_56 : decode cX12_term 56 = .ok (.aload_n 0, 1) := zk_of (zk_l (zk_r (zk_l (zk_r (zk_l zdX12_term_87)))))
theorem dX12_term_57 : decode cX12_term 57 = .ok (.invokevirtual 227, 3) := zk_of (zk_r (zk_r (zk_l (zk_r (zk_l zdX12_term_87)))))
theorem dX12_term_60 : decode cX12_term 60 = .ok (.i2l, 1) := zk_of (zk_l (zk_l (zk_r (zk_r (zk_l zdX12_term_87)))))
theorem dX12_term_61 : decode cX12_term 61 = .ok (.lstore_n 3, 1) := zk_of (zk_r (zk_l (zk_r (zk_r (zk_l zdX12_term_87)))))
theorem dX12_term_62 : decode cX12_term 62 = .ok (.iload_n 2, 1) := zk_of (zk_l (zk_r (zk_r (zk_r (zk_l zdX12_term_87)))))
theorem dX12_term_63 : decode cX12_term 63 = .ok (.ifCond .eq 10, 3) := zk_of (zk_r (zk_r (zk_r (zk_r (zk_l zdX12_term_87)))))
theorem dX12_term_73 : decode cX12_term 73 = .ok (.lload_n 3, 1) := zk_of (zk_l (zk_l (zk_l (zk_l (zk_r zdX12_term_87)))))
theorem dX12_term_74 : decode cX12_term 74 = .ok (.lconst 0, 1) := zk_of (zk_r (zk_l (zk_l (zk_l (zk_r zdX12_term_87)))))
theorem dX12_term_75 : decode cX12_term 75 = .ok (.lcmp, 1) := zk_of (zk_l (zk_r (zk_l (zk_l (zk_r zdX12_term_87)))))
theorem dX12_term_76 : decode cX12_term 76 = .ok (.ifCond .ne 7, 3) := zk_of (zk_r (zk_r (zk_l (zk_l (zk_r zdX12_term_87)))))
theorem dX12_term_83 : decode cX12_term 83 = .ok (.iload_n 1, 1) := zk_of (zk_l (zk_l (zk_r (zk_l (zk_r zdX12_term_87)))))
theorem dX12_term_84 : decode cX12_term 84 = .ok (.i2l, 1) := zk_of (zk_r (zk_l (zk_r (zk_l (zk_r zdX12_term_87)))))
theorem dX12_term_85 : decode cX12_term 85 = .ok (.lload_n 3, 1) := zk_of (zk_l (zk_r (zk_r (zk_l (zk_r zdX12_term_87)))))
theorem dX12_term_86 : decode cX12_term 86 = .ok (.ldiv, 1) := zk_of (zk_r (zk_r (zk_r (zk_l (zk_r zdX12_term_87)))))
theorem dX12_term_79 : decode cX12_term 79 = .ok (.lconst 0, 1) := zk_of (zk_l (zk_l (zk_l (zk_r (zk_r zdX12_term_87)))))
theorem dX12_term_80 : decode cX12_term 80 = .ok (.goto 7, 3) := zk_of (zk_r (zk_l (zk_l (zk_r (zk_r zdX12_term_87)))))
theorem dX12_term_66 : decode cX12_term 66 = .ok (.iload_n 1, 1) := zk_of (zk_l (zk_r (zk_l (zk_r (zk_r zdX12_term_87)))))
theorem dX12_term_67 : decode cX12_term 67 = .ok (.i2l, 1) := zk_of (zk_r (zk_r (zk_l (zk_r (zk_r zdX12_term_87)))))
theorem dX12_term_68 : decode cX12_term 68 = .ok (.lload_n 3, 1) := zk_of (zk_l (zk_l (zk_r (zk_r (zk_r zdX12_term_87)))))
theorem dX12_term_69 : decode cX12_term 69 = .ok (.lmul, 1) := zk_of (zk_r (zk_l (zk_r (zk_r (zk_r zdX12_term_87)))))
theorem dX12_term_70 : decode cX12_term 70 = .ok (.goto 17, 3) := zk_of (zk_l (zk_r (zk_r (zk_r (zk_r zdX12_term_87)))))
theorem dX12_term_31 : decode cX12_term 31 = .ok (.aload_n 0, 1) := zk_of (zk_r (zk_r (zk_r (zk_r (zk_r zdX12_term_87)))))
set_option maxRecDepth 20000 in
theorem ggX12_term_X12_atom : GoodIn wsX12_term wsX12_atom := goodIn_r _ [26, 27, 2, 28, 29, 1, 12, 13, 7, 8, 9, 6, 10, 11, 30, 31, 32, 33, 34, 35, 36, 37, 38, 39, 40, 41, 42, 43, 44, 45, 46, 47, 48, 49, 50, 51, 52, 53, 54, 55, 56, 57, 58, 59, 21, 60, 61, 62, 63, 64, 65, 66, 67, 68, 69, 70, 71, 72, 73, 74, 75, 76, 77, 78, 79, 80, 81, 82, 83, 84, 85, 86, 87, 88, 89, 90, 91, 92, 93, 94, 95, 96, 97, 98, 99, 100, 101, 102, 103, 104, 105, 106, 107, 108, 109, 110, 111, 112, 113, 114, 115, 116, 117, 118, 119, 120, 121, 122, 123, 124, 125, 126, 127, 128, 129, 130, 131, 132, 133, 134, 135, 136, 137, 138, 139, 140, 14, 15, 16, 17, 18, 19, 20, 22, 23, 24, 25, 0, 3, 4, 5, 141, 142, 143, 144, 145, 146, 147, 148, 149, 150, 151, 152, 153, 154, 155, 156, 157, 158, 159, 160, 161, 162, 163, 164, 165, 166, 167, 168, 169, 170, 171, 172, 173, 174, 175, 176, 177, 178, 179, 180, 181, 182, 183, 184, 185, 186, 187, 188, 189, 190, 191, 192, 193, 194, 195, 196, 197, 198, 199, 200, 201, 202, 203, 204, 205, 206, 207, 208, 209] rfl (by decide +kernel)
set_option maxRecDepth 20000 in
theorem gX12_term_X12_atom : GoodIn wsX12_term (wsV RX12 227 RX12 yX12_atom wsX12_atom) := goodIn_app (goodIn_of _ (by decide +kernel)) ggX12_term_X12_atom
set_option maxRecDepth 20000 in
theorem ggX12_term_X12_look : GoodIn wsX12_term wsX12_look := goodIn_r _ [10, 2, 11, 12, 13, 141, 142, 143, 144, 145, 146, 147, 148, 149, 150, 151, 152, 153, 154, 155, 156, 157, 158, 159, 160, 161, 162, 163, 164, 165, 166, 167, 168, 169, 170, 171, 172, 173, 174, 175, 176, 177, 178, 179, 180, 181, 182, 183, 184, 185, 186, 187, 188, 189, 190, 191, 192, 193, 194, 195, 196, 197, 198, 199, 200, 201, 202, 203, 204, 205, 206, 207, 208, 209] rfl (by decide +kernel)
set_option maxRecDepth 20000 in
theorem gX12_term_X12_look : GoodIn wsX12_term (wsV RX12 192 RX12 yX12_look wsX12_look) := goodIn_app (goodIn_of _ (by decide +kernel)) ggX12_term_X12_look
theorem zdX12_term_32 : (and (and (and (and (and (zk cX12_term 32 (.invokevirtual 192) 3) (zk cX12_term 35 (.bipush 42) 2)) (zk cX12_term 37 (.if_icmp .ne 7) 3)) (and (and (zk cX12_term 44 (.iconst 0) 1) (zk cX12_term 40 (.iconst 1) 1)) (zk cX12_term 41 (.goto 4) 3))) (and (and (and (zk cX12_term 5 (.aload_n 0) 1) (zk cX12_term 6 (.getfield 182) 3)) (zk cX12_term 9 (.iconst (-1)) 1)) (and (and (zk cX12_term 10 (.if_icmp .ne 84) 3) (zk cX12_term 94 (.iload_n 1) 1)) (zk cX12_term 95 (.ireturn) 1)))) (and (and (and (and (zk cX12_term 13 (.aload_n 0) 1) (zk cX12_term 14 (.invokevirtual 192) 3)) (zk cX12_term 17 (.bipush 42) 2)) (and (and (zk cX12_term 19 (.if_icmp .eq 12) 3) (zk cX12_term 22 (.aload_n 0) 1)) (zk cX12_term 23 (.invokevirtual 192) 3))) (and (and (and (zk cX12_term 26 (.bipush 47) 2) (zk cX12_term 28 (.if_icmp .ne 66) 3)) (zk cX12_term 0 (.aload_n 0) 1)) (and (zk cX12_term 1 (.invokevirtual 227) 3) (zk cX12_term 4 (.istore_n 1) 1))))) = true := by decide +kernel
theorem dX12_term_32 : decode cX12_term 32 = .ok (.invokevirtual 192, 3) := zk_of (zk_l (zk_l (zk_l (zk_l (zk_l zdX12_term_32)))))
theorem dX12_term_35 : decode cX12_term 35 = .ok (.bipush 42, 2) := zk_of (zk_r (zk_l (zk_l (zk_l (zk_l zdX12_term_32)))))
theorem dX12_term_37 : decode cX12_term 37 = .ok (.if_icmp .ne 7, 3) := zk_of (zk_r (zk_l (zk_l (zk_l zdX12_term_32))))
theorem dX12_term_44 : decode cX12_term 44 = .ok (.iconst 0, 1) := zk_of (zk_l (zk_l (zk_r (zk_l (zk_l zdX12_term_32)))))
theorem dX12_term_40 : decode cX12_term 40 = .ok (.iconst 1, 1) := zk_of (zk_r (zk_l (zk_r (zk_l (zk_l zdX12_term_32)))))
theorem dX12_term_41 : decode cX12_term 41 = .ok (.goto 4, 3) := zk_of (zk_r (zk_r (zk_l (zk_l zdX12_term_32))))
theorem dX12_term_5 : decode cX12_term 5 = .ok (.aload_n 0, 1) := zk_of (zk_l (zk_l (zk_l (zk_r (zk_l zdX12_term_32)))))
theorem dX12_term_6 : decode cX12_term 6 = .ok (.getfield 182, 3) := zk_of (zk_r (zk_l (zk_l (zk_r (zk_l zdX12_term_32)))))
theorem dX12_term_9 : decode cX12_term 9 = .ok (.iconst (-1), 1) := zk_of (zk_r (zk_l (zk_r (zk_l zdX12_term_32))))
theorem dX12_term_10 : decode cX12_term 10 = .ok (.if_icmp .ne 84, 3) := zk_of (zk_l (zk_l (zk_r (zk_r (zk_l zdX12_term_32)))))
theorem dX12_term_94 : decode cX12_term 94 = .ok (.iload_n 1, 1) := zk_of (zk_r (zk_l (zk_r (zk_r (zk_l zdX12_term_32)))))
theorem dX12_term_95 : decode cX12_term 95 = .ok (.ireturn, 1) := zk_of (zk_r (zk_r (zk_r (zk_l zdX12_term_32))))
theorem dX12_term_13 : decode cX12_term 13 = .ok (.aload_n 0, 1) := zk_of (zk_l (zk_l (zk_l (zk_l (zk_r zdX12_term_32)))))
theorem dX12_term_14 : decode cX12_term 14 = .ok (.invokevirtual 192, 3) := zk_of (zk_r (zk_l (zk_l (zk_l (zk_r zdX12_term_32)))))
theorem dX12_term_17 : decode cX12_term 17 = .ok (.bipush 42, 2) := zk_of (zk_r (zk_l (zk_l (zk_r zdX12_term_32))))
theorem dX12_term_19 : decode cX12_term 19 = .ok (.if_icmp .eq 12, 3) := zk_of (zk_l (zk_l (zk_r (zk_l (zk_r zdX12_term_32)))))
theorem dX12_term_22 : decode cX12_term 22 = .ok (.aload_n 0, 1) := zk_of (zk_r (zk_l (zk_r (zk_l (zk_r zdX12_term_32)))))
theorem dX12_term_23 : decode cX12_term 23 = .ok (.invokevirtual 192, 3) := zk_of (zk_r (zk_r (zk_l (zk_r zdX12_term_32))))
theorem dX12_term_26 : decode cX12_term 26 = .ok (.bipush 47, 2) := zk_of (zk_l (zk_l (zk_l (zk_r (zk_r zdX12_term_32)))))
theorem dX12_term_28 : decode cX12_term 28 = .ok (.if_icmp .ne 66, 3) := zk_of (zk_r (zk_l (zk_l (zk_r (zk_r zdX12_term_32)))))
theorem dX12_term_0 : decode cX12_term 0 = .ok (.aload_n 0, 1) := zk_of (zk_r (zk_l (zk_r (zk_r zdX12_term_32))))
theorem dX12_term_1 : decode cX12_term 1 = .ok (.invokevirtual 227, 3) := zk_of (zk_l (zk_r (zk_r (zk_r zdX12_term_32))))
theorem dX12_term_4 : decode cX12_term 4 = .ok (.istore_n 1, 1) := zk_of (zk_r (zk_r (zk_r (zk_r zdX12_term_32))))
/-- HissHornModel.term()I of cell 0 -/
theorem hX12_term_0_X12 : ∀ w ∈ u_ws RX12 TX12 69, w ∈ wsX12_term := fun w h => (List.mem_cons_of_mem _ (List.mem_append_right _ h))
theorem mX12_term_0_1 : Cond.fieldLink RX12 182 "HissHornModel" "fault" "I" ∈ wsX12_term := (List.mem_cons_of_mem _ (List.mem_append_left _ (List.mem_append_left _ (List.mem_of_getElem? (i := 0) rfl))))
theorem mX12_term_0_2 : Cond.fieldLink RX12 173 "HissHornModel" "at" "I" ∈ wsX12_term := (List.mem_cons_of_mem _ (List.mem_append_left _ (List.mem_append_left _ (List.mem_of_getElem? (i := 1) rfl))))
def GX12_term_0_87 (rc : Nat → Int32 → SX → Option (Int32 × SX)) (k5 : Int32 → SX → Option (Int32 × SX)) (y0 : Int64) (u : SX) : Option (Int32 × SX) := ((fX12_within y0).bind fun r18 => (k5 r18 u))
def GX12_term_0_45 (rc : Nat → Int32 → SX → Option (Int32 × SX)) (k5 : Int32 → SX → Option (Int32 × SX)) (z1 : Int32) (y0 : Int32) (u : SX) : Option (Int32 × SX) := (lt (sI u 6 ((u.1 6) + 1)) fun u10 => ((rc 2  0 u10).bind fun q => match q with | (r12, u13) => (lt (r12.toInt64) fun v15 => (if y0 = 0 then (if (lg_cmp v15 0) = 0 then (GX12_term_0_87 rc k5 0 u13) else (gd (nzL v15) (GX12_term_0_87 rc k5 ((z1.toInt64) / v15) u13))) else (GX12_term_0_87 rc k5 ((z1.toInt64) * v15) u13)))))
def GX12_term_0_31 (rc : Nat → Int32 → SX → Option (Int32 × SX)) (k5 : Int32 → SX → Option (Int32 × SX)) (z1 : Int32) (u : SX) : Option (Int32 × SX) := ((fX12_look_0  u).bind fun q => match q with | (r7, u8) => (if r7 = 42 then (GX12_term_0_45 rc k5 z1 1 u8) else (GX12_term_0_45 rc k5 z1 0 u8)))
def LX12_term_0_5 (rc : Nat → Int32 → SX → Option (Int32 × SX))  : Nat → Int32 → SX → Option (Int32 × SX)
  | 0, _, _ => none
  | n + 1, z1, u => (if (u.1 7) = (-1) then ((fX12_look_0  u).bind fun q => match q with | (r4, u5) => (if r4 = 42 then (GX12_term_0_31 rc (LX12_term_0_5 rc n) z1 u5) else ((fX12_look_0  u5).bind fun q => match q with | (r21, u22) => (if r21 = 47 then (GX12_term_0_31 rc (LX12_term_0_5 rc n) z1 u22) else (some (z1, u22)))))) else (some (z1, u)))
def fX12_term_0 (rc : Nat → Int32 → SX → Option (Int32 × SX))  (u : SX) : Option (Int32 × SX) := ((rc 2  0 u).bind fun q => match q with | (r1, u2) => (LX12_term_0_5 rc  5000 r1 u2))
set_option maxHeartbeats 4000000 in
set_option maxRecDepth 100000 in
theorem wGX12_term_0_87 {p : Program} {l : Launch} {e : Env} {s : State} {m : MethodId} {args : Array Value} {below : List Frame} {meth : Method} {c : Code} {D : va_G} {cy : Nat → ClassId} {ad st : Nat → Nat} (C : Cx RX12 cX12_term 5 (some .int) wsX12_term p s m args meth c) (hK : Ky D [(cy 0, .int), (cy 1, .long), (cy 2, .boolean), (cy 3, .byte), (cy 4, .object "HissHorn$Text")] st s) (hJ : JM ad st) {rc : Nat → Int32 → SX → Option (Int32 × SX)} {dd : Nat} (hrc : hRX12sumg l D cy ad st rc dd) {r : Int32} {u' : SX} {k5 : Int32 → SX → Option (Int32 × SX)} (hk5 : ∀ (z1 : Int32) (u : SX) (H : Heap) (locs : List Loc) (ls : Array Slot), k5 z1 u = some (r, u') → va_P D vwCl (VM cy ad st u) H → va_S (Ax (AM ad) s.heap.size) s.heap H locs → lv_has ls 5 [(0, .ref (ad 0)), (1, .int z1)] → W p l e (rmX12sumg (dd + 1)) s m args below meth c H locs 0 0 (MQ below (Qi D (VM cy ad st) (AM ad) s.heap.size r u') args s 0 0 (Ax (AM ad) s.heap.size)) (F0 m 5 ls [])) (y0 : Int64) (u : SX) (H : Heap) (locs : List Loc) (ls : Array Slot) (h : GX12_term_0_87 rc k5 y0 u = some (r, u')) (hP : va_P D vwCl (VM cy ad st u) H) (hS : va_S (Ax (AM ad) s.heap.size) s.heap H locs) (hl : lv_has ls 5 [(0, .ref (ad 0))]) : W p l e (rmX12sumg (dd + 1)) s m args below meth c H locs 0 0 (MQ below (Qi D (VM cy ad st) (AM ad) s.heap.size r u') args s 0 0 (Ax (AM ad) s.heap.size)) (F0 m 87 ls [.long y0]) := by
  unfold GX12_term_0_87 at h
  obtain ⟨r18, hc20, h⟩ := bd_some h
  refine cs_i (As := [.long y0]) (rest := []) (AM_ge hJ) C hK hP hS (metX12_within l D cy st _ y0 hc20) (va_cwS 1 C.2.2.2.2.2.1 gX12_term_X12_within rfl rfl rfl (by decide +kernel) ⟨(Nat.le_trans (m := 4) (Nat.le_of_ble_eq_true rfl) (rmX12sumg_f _)), (Nat.le_trans (m := 91) (Nat.le_of_ble_eq_true rfl) (rmX12sumg_l _))⟩) rfl hl.1 rfl (Nat.le_of_ble_eq_true rfl) dX12_term_87 ⟨Nat.zero_le _, Nat.zero_le _⟩ (fun H locs hP hS => ?_)
  refine lv_istore_n (lv' := [(1, .int r18), (0, .ref (ad 0))]) C.1 C.2.1 dX12_term_90 rfl hl (by decide) rfl (fun ls hl => ?_)
  replace hl := lv_sub (l' := [(0, .ref (ad 0)), (1, .int r18)]) hl [1, 0] rfl
  refine lv_goto (tgt := 5) C.1 C.2.1 dX12_term_91 (by decide) ?_
  exact hk5 _ _ _ _ _ h hP hS hl
set_option maxHeartbeats 4000000 in
set_option maxRecDepth 100000 in
theorem wGX12_term_0_45 {p : Program} {l : Launch} {e : Env} {s : State} {m : MethodId} {args : Array Value} {below : List Frame} {meth : Method} {c : Code} {D : va_G} {cy : Nat → ClassId} {ad st : Nat → Nat} (C : Cx RX12 cX12_term 5 (some .int) wsX12_term p s m args meth c) (hK : Ky D [(cy 0, .int), (cy 1, .long), (cy 2, .boolean), (cy 3, .byte), (cy 4, .object "HissHorn$Text")] st s) (hJ : JM ad st) {rc : Nat → Int32 → SX → Option (Int32 × SX)} {dd : Nat} (hrc : hRX12sumg l D cy ad st rc dd) {r : Int32} {u' : SX} {k5 : Int32 → SX → Option (Int32 × SX)} (hk5 : ∀ (z1 : Int32) (u : SX) (H : Heap) (locs : List Loc) (ls : Array Slot), k5 z1 u = some (r, u') → va_P D vwCl (VM cy ad st u) H → va_S (Ax (AM ad) s.heap.size) s.heap H locs → lv_has ls 5 [(0, .ref (ad 0)), (1, .int z1)] → W p l e (rmX12sumg (dd + 1)) s m args below meth c H locs 0 0 (MQ below (Qi D (VM cy ad st) (AM ad) s.heap.size r u') args s 0 0 (Ax (AM ad) s.heap.size)) (F0 m 5 ls [])) (z1 : Int32) (y0 : Int32) (u : SX) (H : Heap) (locs : List Loc) (ls : Array Slot) (h : GX12_term_0_45 rc k5 z1 y0 u = some (r, u')) (hP : va_P D vwCl (VM cy ad st u) H) (hS : va_S (Ax (AM ad) s.heap.size) s.heap H locs) (hl : lv_has ls 5 [(0, .ref (ad 0)), (1, .int z1)]) : W p l e (rmX12sumg (dd + 1)) s m args below meth c H locs 0 0 (MQ below (Qi D (VM cy ad st) (AM ad) s.heap.size r u') args s 0 0 (Ax (AM ad) s.heap.size)) (F0 m 45 ls [.int y0]) := by
  unfold GX12_term_0_45 at h
  refine lv_istore_n (lv' := [(2, .int y0), (0, .ref (ad 0)), (1, .int z1)]) C.1 C.2.1 dX12_term_45 rfl hl (by decide) rfl (fun ls hl => ?_)
  replace hl := lv_sub (l' := [(0, .ref (ad 0)), (1, .int z1), (2, .int y0)]) hl [1, 2, 0] rfl
  refine lv_aload_n C.1 C.2.1 dX12_term_46 rfl (lv_at hl 0 rfl) ?_
  refine lv_dup C.1 C.2.1 dX12_term_47 rfl ?_
  refine gM_0_at C hX12_term_0_X12 hK hP mX12_term_0_2 dX12_term_48 ?_
  refine lv_iconst (v := 1) C.1 C.2.1 dX12_term_51 (by decide) ?_
  refine lv_iadd C.1 C.2.1 dX12_term_52 ?_
  refine pM_0_at C hX12_term_0_X12 hK hP hJ hS mX12_term_0_2 dX12_term_53 (fun H locs hP hS => ?_)
  obtain ⟨u10, hu11, h⟩ := lt_some h
  rw [← hu11] at hP
  refine lv_aload_n C.1 C.2.1 dX12_term_56 rfl (lv_at hl 0 rfl) ?_
  obtain ⟨⟨r12, u13⟩, hc14, h⟩ := bd_some h
  try dsimp only at h
  refine cg_i (As := []) (rest := []) (AM_ge hJ) C hK hP hS (hrc.2.2 _  _ _ _ hc14) (cwV 0 C.2.2.2.2.2.1 gX12_term_X12_atom rfl rfl rfl (by decide +kernel) ⟨rmX12sumg_sf dd, rmX12sumg_sl dd (k := 8 + (4 + 11)) (Nat.le_of_ble_eq_true rfl)⟩) 0 12 rfl rfl rfl hl.1 rfl (Nat.le_of_ble_eq_true rfl) dX12_term_57 ⟨Nat.zero_le _, Nat.zero_le _⟩ (fun H locs hP hS => ?_)
  refine lv_i2l (v := r12.toInt64) C.1 C.2.1 dX12_term_60 rfl ?_
  refine lv_topl (fun v15 hv16 => ?_)
  replace h := lt_e hv16 h
  try dsimp only at h
  refine lv_lstore_n (lv' := [(3, .long v15), (0, .ref (ad 0)), (1, .int z1), (2, .int y0)]) C.1 C.2.1 dX12_term_61 rfl hl (by decide) rfl (fun ls hl => ?_)
  replace hl := lv_sub (l' := [(0, .ref (ad 0)), (1, .int z1), (2, .int y0), (3, .long v15)]) hl [1, 2, 3, 0] rfl
  refine lv_iload_n C.1 C.2.1 dX12_term_62 rfl (lv_at hl 2 rfl) ?_
  refine lv_if_eq (tgt := 73) C.1 C.2.1 dX12_term_63 (by decide) (fun c63 => ?_) (fun c63 => ?_)
  · rw [if_pos c63] at h
    refine lv_lload_n C.1 C.2.1 dX12_term_73 rfl (lv_at hl 3 rfl) ?_
    refine lv_lconst (v := 0) C.1 C.2.1 dX12_term_74 (by decide) ?_
    refine W.lcmp C.1 C.2.1 dX12_term_75 ?_
    refine lv_if_ne (tgt := 83) C.1 C.2.1 dX12_term_76 (by decide) (fun c76 => ?_) (fun c76 => ?_)
    · rw [if_neg c76] at h
      refine lv_iload_n C.1 C.2.1 dX12_term_83 rfl (lv_at hl 1 rfl) ?_
      refine lv_i2l (v := z1.toInt64) C.1 C.2.1 dX12_term_84 rfl ?_
      refine lv_lload_n C.1 C.2.1 dX12_term_85 rfl (lv_at hl 3 rfl) ?_
      obtain ⟨hg17, h⟩ := gd_some h
      refine lv_ldiv C.1 C.2.1 dX12_term_86 (nzL_n hg17) ?_
      exact wGX12_term_0_87 C hK hJ hrc hk5 _ _ _ _ _ h hP hS (lv_sub hl [0] rfl)
    · rw [if_pos c76] at h
      refine lv_lconst (v := 0) C.1 C.2.1 dX12_term_79 (by decide) ?_
      refine lv_goto (tgt := 87) C.1 C.2.1 dX12_term_80 (by decide) ?_
      exact wGX12_term_0_87 C hK hJ hrc hk5 _ _ _ _ _ h hP hS (lv_sub hl [0] rfl)
  · rw [if_neg c63] at h
    refine lv_iload_n C.1 C.2.1 dX12_term_66 rfl (lv_at hl 1 rfl) ?_
    refine lv_i2l (v := z1.toInt64) C.1 C.2.1 dX12_term_67 rfl ?_
    refine lv_lload_n C.1 C.2.1 dX12_term_68 rfl (lv_at hl 3 rfl) ?_
    refine lv_lmul C.1 C.2.1 dX12_term_69 ?_
    refine lv_goto (tgt := 87) C.1 C.2.1 dX12_term_70 (by decide) ?_
    exact wGX12_term_0_87 C hK hJ hrc hk5 _ _ _ _ _ h hP hS (lv_sub hl [0] rfl)
set_option maxHeartbeats 4000000 in
set_option maxRecDepth 100000 in
theorem wGX12_term_0_31 {p : Program} {l : Launch} {e : Env} {s : State} {m : MethodId} {args : Array Value} {below : List Frame} {meth : Method} {c : Code} {D : va_G} {cy : Nat → ClassId} {ad st : Nat → Nat} (C : Cx RX12 cX12_term 5 (some .int) wsX12_term p s m args meth c) (hK : Ky D [(cy 0, .int), (cy 1, .long), (cy 2, .boolean), (cy 3, .byte), (cy 4, .object "HissHorn$Text")] st s) (hJ : JM ad st) {rc : Nat → Int32 → SX → Option (Int32 × SX)} {dd : Nat} (hrc : hRX12sumg l D cy ad st rc dd) {r : Int32} {u' : SX} {k5 : Int32 → SX → Option (Int32 × SX)} (hk5 : ∀ (z1 : Int32) (u : SX) (H : Heap) (locs : List Loc) (ls : Array Slot), k5 z1 u = some (r, u') → va_P D vwCl (VM cy ad st u) H → va_S (Ax (AM ad) s.heap.size) s.heap H locs → lv_has ls 5 [(0, .ref (ad 0)), (1, .int z1)] → W p l e (rmX12sumg (dd + 1)) s m args below meth c H locs 0 0 (MQ below (Qi D (VM cy ad st) (AM ad) s.heap.size r u') args s 0 0 (Ax (AM ad) s.heap.size)) (F0 m 5 ls [])) (z1 : Int32) (u : SX) (H : Heap) (locs : List Loc) (ls : Array Slot) (h : GX12_term_0_31 rc k5 z1 u = some (r, u')) (hP : va_P D vwCl (VM cy ad st u) H) (hS : va_S (Ax (AM ad) s.heap.size) s.heap H locs) (hl : lv_has ls 5 [(0, .ref (ad 0)), (1, .int z1)]) : W p l e (rmX12sumg (dd + 1)) s m args below meth c H locs 0 0 (MQ below (Qi D (VM cy ad st) (AM ad) s.heap.size r u') args s 0 0 (Ax (AM ad) s.heap.size)) (F0 m 31 ls []) := by
  unfold GX12_term_0_31 at h
  refine lv_aload_n C.1 C.2.1 dX12_term_31 rfl (lv_at hl 0 rfl) ?_
  obtain ⟨⟨r7, u8⟩, hc9, h⟩ := bd_some h
  try dsimp only at h
  refine cg_i (As := []) (rest := []) (AM_ge hJ) C hK hP hS (metX12_look_0 l D cy ad st hJ _  hc9) (cwV 0 C.2.2.2.2.2.1 gX12_term_X12_look rfl rfl rfl (by decide +kernel) ⟨(Nat.le_trans (m := 4) (Nat.le_of_ble_eq_true rfl) (rmX12sumg_f _)), (Nat.le_trans (m := 91) (Nat.le_of_ble_eq_true rfl) (rmX12sumg_l _))⟩) 0 12 rfl rfl rfl hl.1 rfl (Nat.le_of_ble_eq_true rfl) dX12_term_32 ⟨Nat.zero_le _, Nat.zero_le _⟩ (fun H locs hP hS => ?_)
  refine lv_bipush (v := 42) C.1 C.2.1 dX12_term_35 (by decide) ?_
  refine lv_icmp_ne (tgt := 44) C.1 C.2.1 dX12_term_37 (by decide) (fun c37 => ?_) (fun c37 => ?_)
  · rw [if_neg c37] at h
    refine lv_iconst (v := 0) C.1 C.2.1 dX12_term_44 (by decide) ?_
    exact wGX12_term_0_45 C hK hJ hrc hk5 _ _ _ _ _ _ h hP hS hl
  · rw [if_pos c37] at h
    refine lv_iconst (v := 1) C.1 C.2.1 dX12_term_40 (by decide) ?_
    refine lv_goto (tgt := 45) C.1 C.2.1 dX12_term_41 (by decide) ?_
    exact wGX12_term_0_45 C hK hJ hrc hk5 _ _ _ _ _ _ h hP hS hl
set_option maxHeartbeats 4000000 in
set_option maxRecDepth 100000 in
theorem wLX12_term_0_5 {p : Program} {l : Launch} {e : Env} {s : State} {m : MethodId} {args : Array Value} {below : List Frame} {meth : Method} {c : Code} {D : va_G} {cy : Nat → ClassId} {ad st : Nat → Nat} (C : Cx RX12 cX12_term 5 (some .int) wsX12_term p s m args meth c) (hK : Ky D [(cy 0, .int), (cy 1, .long), (cy 2, .boolean), (cy 3, .byte), (cy 4, .object "HissHorn$Text")] st s) (hJ : JM ad st) {rc : Nat → Int32 → SX → Option (Int32 × SX)} {dd : Nat} (hrc : hRX12sumg l D cy ad st rc dd) {r : Int32} {u' : SX}   : ∀ (n : Nat) (z1 : Int32) (u : SX) (H : Heap) (locs : List Loc) (ls : Array Slot), LX12_term_0_5 rc  n z1 u = some (r, u') → va_P D vwCl (VM cy ad st u) H → va_S (Ax (AM ad) s.heap.size) s.heap H locs → lv_has ls 5 [(0, .ref (ad 0)), (1, .int z1)] → W p l e (rmX12sumg (dd + 1)) s m args below meth c H locs 0 0 (MQ below (Qi D (VM cy ad st) (AM ad) s.heap.size r u') args s 0 0 (Ax (AM ad) s.heap.size)) (F0 m 5 ls []) := by
  intro n
  induction n with
  | zero =>
    intro z1 u H locs ls h
    exact absurd h (by intro q; cases q)
  | succ n ih =>
    intro z1 u H locs ls h hP hS hl
    rw [LX12_term_0_5] at h
    refine lv_aload_n C.1 C.2.1 dX12_term_5 rfl (lv_at hl 0 rfl) ?_
    refine gM_0_fault C hX12_term_0_X12 hK hP mX12_term_0_1 dX12_term_6 ?_
    refine lv_iconst (v := (-1)) C.1 C.2.1 dX12_term_9 (by decide) ?_
    refine lv_icmp_ne (tgt := 94) C.1 C.2.1 dX12_term_10 (by decide) (fun c10 => ?_) (fun c10 => ?_)
    · rw [if_neg c10] at h
      refine lv_iload_n C.1 C.2.1 dX12_term_94 rfl (lv_at hl 1 rfl) ?_
      cases h
      exact rt_i C hP hS dX12_term_95
    · rw [if_pos c10] at h
      refine lv_aload_n C.1 C.2.1 dX12_term_13 rfl (lv_at hl 0 rfl) ?_
      obtain ⟨⟨r4, u5⟩, hc6, h⟩ := bd_some h
      try dsimp only at h
      refine cg_i (As := []) (rest := []) (AM_ge hJ) C hK hP hS (metX12_look_0 l D cy ad st hJ _  hc6) (cwV 0 C.2.2.2.2.2.1 gX12_term_X12_look rfl rfl rfl (by decide +kernel) ⟨(Nat.le_trans (m := 4) (Nat.le_of_ble_eq_true rfl) (rmX12sumg_f _)), (Nat.le_trans (m := 91) (Nat.le_of_ble_eq_true rfl) (rmX12sumg_l _))⟩) 0 12 rfl rfl rfl hl.1 rfl (Nat.le_of_ble_eq_true rfl) dX12_term_14 ⟨Nat.zero_le _, Nat.zero_le _⟩ (fun H locs hP hS => ?_)
      refine lv_bipush (v := 42) C.1 C.2.1 dX12_term_17 (by decide) ?_
      refine lv_icmp_eq (tgt := 31) C.1 C.2.1 dX12_term_19 (by decide) (fun c19 => ?_) (fun c19 => ?_)
      · rw [if_pos c19] at h
        exact wGX12_term_0_31 C hK hJ hrc ih _ _ _ _ _ h hP hS hl
      · rw [if_neg c19] at h
        refine lv_aload_n C.1 C.2.1 dX12_term_22 rfl (lv_at hl 0 rfl) ?_
        obtain ⟨⟨r21, u22⟩, hc23, h⟩ := bd_some h
        try dsimp only at h
        refine cg_i (As := []) (rest := []) (AM_ge hJ) C hK hP hS (metX12_look_0 l D cy ad st hJ _  hc23) (cwV 0 C.2.2.2.2.2.1 gX12_term_X12_look rfl rfl rfl (by decide +kernel) ⟨(Nat.le_trans (m := 4) (Nat.le_of_ble_eq_true rfl) (rmX12sumg_f _)), (Nat.le_trans (m := 91) (Nat.le_of_ble_eq_true rfl) (rmX12sumg_l _))⟩) 0 12 rfl rfl rfl hl.1 rfl (Nat.le_of_ble_eq_true rfl) dX12_term_23 ⟨Nat.zero_le _, Nat.zero_le _⟩ (fun H locs hP hS => ?_)
        refine lv_bipush (v := 47) C.1 C.2.1 dX12_term_26 (by decide) ?_
        refine lv_icmp_ne (tgt := 94) C.1 C.2.1 dX12_term_28 (by decide) (fun c28 => ?_) (fun c28 => ?_)
        · rw [if_neg c28] at h
          refine lv_iload_n C.1 C.2.1 dX12_term_94 rfl (lv_at hl 1 rfl) ?_
          cases h
          exact rt_i C hP hS dX12_term_95
        · rw [if_pos c28] at h
          exact wGX12_term_0_31 C hK hJ hrc ih _ _ _ _ _ h hP hS hl
set_option maxHeartbeats 4000000 in
set_option maxRecDepth 100000 in
theorem wX12_term_0 {p : Program} {l : Launch} {e : Env} {s : State} {m : MethodId} {args : Array Value} {below : List Frame} {meth : Method} {c : Code} {D : va_G} {cy : Nat → ClassId} {ad st : Nat → Nat} (C : Cx RX12 cX12_term 5 (some .int) wsX12_term p s m args meth c) (hK : Ky D [(cy 0, .int), (cy 1, .long), (cy 2, .boolean), (cy 3, .byte), (cy 4, .object "HissHorn$Text")] st s) (hJ : JM ad st) {rc : Nat → Int32 → SX → Option (Int32 × SX)} {dd : Nat} (hrc : hRX12sumg l D cy ad st rc dd)  {u : SX} {r : Int32} {u' : SX} {H : Heap} {locs : List Loc} {ls : Array Slot} (h : fX12_term_0 rc  u = some (r, u')) (hP : va_P D vwCl (VM cy ad st u) H) (hS : va_S (Ax (AM ad) s.heap.size) s.heap H locs) (hl : lv_has ls 5 [(0, .ref (ad 0))]) : W p l e (rmX12sumg (dd + 1)) s m args below meth c H locs 0 0 (MQ below (Qi D (VM cy ad st) (AM ad) s.heap.size r u') args s 0 0 (Ax (AM ad) s.heap.size)) (F0 m 0 ls []) := by
  unfold fX12_term_0 at h
  refine lv_aload_n C.1 C.2.1 dX12_term_0 rfl (lv_at hl 0 rfl) ?_
  obtain ⟨⟨r1, u2⟩, hc3, h⟩ := bd_some h
  try dsimp only at h
  refine cg_i (As := []) (rest := []) (AM_ge hJ) C hK hP hS (hrc.2.2 _  _ _ _ hc3) (cwV 0 C.2.2.2.2.2.1 gX12_term_X12_atom rfl rfl rfl (by decide +kernel) ⟨rmX12sumg_sf dd, rmX12sumg_sl dd (k := 8 + (4 + 11)) (Nat.le_of_ble_eq_true rfl)⟩) 0 12 rfl rfl rfl hl.1 rfl (Nat.le_of_ble_eq_true rfl) dX12_term_1 ⟨Nat.zero_le _, Nat.zero_le _⟩ (fun H locs hP hS => ?_)
  refine lv_istore_n (lv' := [(1, .int r1), (0, .ref (ad 0))]) C.1 C.2.1 dX12_term_4 rfl hl (by decide) rfl (fun ls hl => ?_)
  replace hl := lv_sub (l' := [(0, .ref (ad 0)), (1, .int r1)]) hl [1, 0] rfl
  exact wLX12_term_0_5 C hK hJ hrc  5000 _ _ _ _ _ h hP hS hl
theorem metX12_term_0 (l : Launch) (D : va_G) (cy : Nat → ClassId) (ad st : Nat → Nat) (hJ : JM ad st) {rc : Nat → Int32 → SX → Option (Int32 × SX)} {dd : Nat} (hrc : hRX12sumg l D cy ad st rc dd) (sz : Nat)  {u : SX} {r : Int32} {u' : SX} (h : fX12_term_0 rc  u = some (r, u')) : Met l yX12_term wsX12_term (rmX12sumg (dd + 1)) (va_Pc [.ref (ad 0)] (Px D [(cy 0, .int), (cy 1, .long), (cy 2, .boolean), (cy 3, .byte), (cy 4, .object "HissHorn$Text")] st (VM cy ad st) sz u)) (Qi D (VM cy ad st) (AM ad) sz r u') 0 0 (Ax (AM ad) sz) := by
  refine Met.ofW (cc := cX12_term) (maxL := 5) (ret := (some .int)) (by decide) rfl ?_
  intro p e s m args below meth c s₁ B hml hv
  obtain ⟨rfl, hsz, hP, hK⟩ := hv
  subst hsz
  have C : Cx RX12 cX12_term 5 (some .int) wsX12_term p s m _ meth c := ⟨B.exec, B.bytes, hml, B.returns, findClass_of_methodNamed B.named, atoms_spec (ws := wsX12_term) B.pre, B.notSynchronized⟩
  have hl := lv_entry ([.ref (ad 0)]) (n := 5) (Nat.le_of_ble_eq_true rfl)
  rw [lg_entry_eq]
  exact wX12_term_0 C hK hJ hrc h hP va_S.rf hl

theorem zdX12_atom_97 : (and (and (and (and (and (zk cX12_atom 97 (.aload_n 0) 1) (zk cX12_atom 98 (.invokevirtual 224) 3)) (and (zk cX12_atom 101 (.ifCond .eq 62) 3) (zk cX12_atom 163 (.iload_n 2) 1))) (and (and (zk cX12_atom 164 (.ireturn) 1) (zk cX12_atom 104 (.aload_n 0) 1)) (and (zk cX12_atom 105 (.getfield 182) 3) (zk cX12_atom 108 (.iconst (-1)) 1)))) (and (and (and (zk cX12_atom 109 (.if_icmp .ne 54) 3) (zk cX12_atom 112 (.iload_n 3) 1)) (and (zk cX12_atom 113 (.iconst 4) 1) (zk cX12_atom 114 (.if_icmp .ne 10) 3))) (and (and (zk cX12_atom 124 (.bipush 10) 2) (zk cX12_atom 126 (.iload_n 2) 1)) (and (zk cX12_atom 127 (.imul) 1) (zk cX12_atom 128 (.aload_n 0) 1))))) (and (and (and (and (zk cX12_atom 129 (.getfield 26) 3) (zk cX12_atom 132 (.aload_n 0) 1)) (and (zk cX12_atom 133 (.getfield 179) 3) (zk cX12_atom 136 (.aload_n 0) 1))) (and (and (zk cX12_atom 137 (.getfield 173) 3) (zk cX12_atom 140 (.iadd) 1)) (and (zk cX12_atom 141 (.baload) 1) (zk cX12_atom 142 (.iadd) 1)))) (and (and (and (zk cX12_atom 143 (.bipush 48) 2) (zk cX12_atom 145 (.isub) 1)) (and (zk cX12_atom 146 (.istore_n 2) 1) (zk cX12_atom 147 (.aload_n 0) 1))) (and (and (zk cX12_atom 148 (.dup) 1) (zk cX12_atom 149 (.getfield 173) 3)) (and (zk cX12_atom 152 (.iconst 1) 1) (zk cX12_atom 153 (.iadd) 1)))))) = true := by decide +kernel
theorem dX12_atom_97 : decode cX12_atom 97 = .ok (.aload_n 0, 1) := zk_of (zk_l (zk_l (zk_l (zk_l (zk_l zdX12_atom_97)))))
theorem dX12_atom_98 : decode cX12_atom 98 = .ok (.invokevirtual 224, 3) := zk_of (zk_r (zk_l (zk_l (zk_l (zk_l zdX12_atom_97)))))
theorem dX12_atom_101 : decode cX12_atom 101 = .ok (.ifCond .eq 62, 3) := zk_of (zk_l (zk_r (zk_l (zk_l (zk_l zdX12_atom_97)))))
theorem dX12_atom_163 : decode cX12_atom 163 = .ok (.iload_n 2, 1) := zk_of (zk_r (zk_r (zk_l (zk_l (zk_l zdX12_atom_97)))))
theorem dX12_atom_164 : decode cX12_atom 164 = .ok (.ireturn, 1) := zk_of (zk_l (zk_l (zk_r (zk_l (zk_l zdX12_atom_97)))))
theorem dX12_atom_104 : decode cX12_atom 104 = .ok (.aload_n 0, 1) := zk_of (zk_r (zk_l (zk_r (zk_l (zk_l zdX12_atom_97)))))
theorem dX12_atom_105 : decode cX12_atom 105 = .ok (.getfield 182, 3) := zk_of (zk_l (zk_r (zk_r (zk_l (zk_l zdX12_atom_97)))))
theorem dX12_atom_108 : decode cX12_atom 108 = .ok (.iconst (-1), 1) := zk_of (zk_r (zk_r (zk_r (zk_l (zk_l zdX12_atom_97)))))
theorem dX12_atom_109 : decode cX12_atom 109 = .ok (.if_icmp .ne 54, 3) := zk_of (zk_l (zk_l (zk_l (zk_r (zk_l zdX12_atom_97)))))
theorem dX12_atom_112 : decode cX12_atom 112 = .ok (.iload_n 3, 1) := zk_of (zk_r (zk_l (zk_l (zk_r (zk_l zdX12_atom_97)))))
theorem dX12_atom_113 : decode cX12_atom 113 = .ok (.iconst 4, 1) := zk_of (zk_l (zk_r (zk_l (zk_r (zk_l zdX12_atom_97)))))
theorem dX12_atom_114 : decode cX12_atom 114 = .ok (.if_icmp .ne 10, 3) := zk_of (zk_r (zk_r (zk_l (zk_r (zk_l zdX12_atom_97)))))
theorem dX12_atom_124 : decode cX12_atom 124 = .ok (.bipush 10, 2) := zk_of (zk_l (zk_l (zk_r (zk_r (zk_l zdX12_atom_97)))))
theorem dX12_atom_126 : decode cX12_atom 126 = .ok (.iload_n 2, 1) := zk_of (zk_r (zk_l (zk_r (zk_r (zk_l zdX12_atom_97)))))
theorem dX12_atom_127 : decode cX12_atom 127 = .ok (.imul, 1) := zk_of (zk_l (zk_r (zk_r (zk_r (zk_l zdX12_atom_97)))))
theorem dX12_atom_128 : decode cX12_atom 128 = .ok (.aload_n 0, 1) := zk_of (zk_r (zk_r (zk_r (zk_r (zk_l zdX12_atom_97)))))
theorem dX12_atom_129 : decode cX12_atom 129 = .ok (.getfield 26, 3) := zk_of (zk_l (zk_l (zk_l (zk_l (zk_r zdX12_atom_97)))))
theorem dX12_atom_132 : decode cX12_atom 132 = .ok (.aload_n 0, 1) := zk_of (zk_r (zk_l (zk_l (zk_l (zk_r zdX12_atom_97)))))
theorem dX12_atom_133 : decode cX12_atom 133 = .ok (.getfield 179, 3) := zk_of (zk_l (zk_r (zk_l (zk_l (zk_r zdX12_atom_97)))))
theorem dX12_atom_136 : decode cX12_atom 136 = .ok (.aload_n 0, 1) := zk_of (zk_r (zk_r (zk_l (zk_l (zk_r zdX12_atom_97)))))
theorem dX12_atom_137 : decode cX12_atom 137 = .ok (.getfield 173, 3) := zk_of (zk_l (zk_l (zk_r (zk_l (zk_r zdX12_atom_97)))))
theorem dX12_atom_140 : decode cX12_atom 140 = .ok (.iadd, 1) := zk_of (zk_r (zk_l (zk_r (zk_l (zk_r zdX12_atom_97)))))
theorem dX12_atom_141 : decode cX12_atom 141 = .ok (.baload, 1) := zk_of (zk_l (zk_r (zk_r (zk_l (zk_r zdX12_atom_97)))))
theorem dX12_atom_142 : decode cX12_atom 142 = .ok (.iadd, 1) := zk_of (zk_r (zk_r (zk_r (zk_l (zk_r zdX12_atom_97)))))
theorem dX12_atom_143 : decode cX12_atom 143 = .ok (.bipush 48, 2) := zk_of (zk_l (zk_l (zk_l (zk_r (zk_r zdX12_atom_97)))))
theorem dX12_atom_145 : decode cX12_atom 145 = .ok (.isub, 1) := zk_of (zk_r (zk_l (zk_l (zk_r (zk_r zdX12_atom_97)))))
theorem dX12_atom_146 : decode cX12_atom 146 = .ok (.istore_n 2, 1) := zk_of (zk_l (zk_r (zk_l (zk_r (zk_r zdX12_atom_97)))))
theorem dX12_atom_147 : decode cX12_atom 147 = .ok (.aload_n 0, 1) := zk_of (zk_r (zk_r (zk_l (zk_r (zk_r zdX12_atom_97)))))
theorem dX12_atom_148 : decode cX12_atom 148 = .ok (.dup, 1) := zk_of (zk_l (zk_l (zk_r (zk_r (zk_r zdX12_atom_97)))))
theorem dX12_atom_149 : decode cX12_atom 149 = .ok (.getfield 173, 3) := zk_of (zk_r (zk_l (zk_r (zk_r (zk_r zdX12_atom_97)))))
theorem dX12_atom_152 : decode cX12_atom 152 = .ok (.iconst 1, 1) := zk_of (zk_l (zk_r (zk_r (zk_r (zk_r zdX12_atom_97)))))
theorem dX12_atom_153 : decode cX12_atom 153 = .ok (.iadd, 1) := zk_of (zk_r (zk_r (zk_r (zk_r (zk_r zdX12_atom_97)))))
set_option maxRecDepth 20000 in
theorem ggX12_atom_X12_isDigit : GoodIn wsX12_atom wsX12_isDigit := goodIn_r _ [121, 2, 13, 6, 7, 141, 142, 143, 144, 145, 146, 147, 148, 149, 150, 151, 152, 153, 154, 155, 156, 157, 158, 159, 160, 161, 162, 163, 164, 165, 166, 167, 168, 169, 170, 171, 172, 173, 174, 175, 176, 177, 178, 179, 180, 181, 182, 183, 184, 185, 186, 187, 188, 189, 190, 191, 192, 193, 194, 195, 196, 197, 198, 199, 200, 201, 202, 203, 204, 205, 206, 207, 208, 209] rfl (by decide +kernel)
set_option maxRecDepth 20000 in
theorem gX12_atom_X12_isDigit : GoodIn wsX12_atom (wsV RX12 224 RX12 yX12_isDigit wsX12_isDigit) := goodIn_app (goodIn_of _ (by decide +kernel)) ggX12_atom_X12_isDigit
theorem zdX12_atom_154 : (and (and (and (and (and (zk cX12_atom 154 (.putfield 173) 3) (zk cX12_atom 157 (.iinc 3 1) 3)) (and (zk cX12_atom 160 (.goto (-63)) 3) (zk cX12_atom 117 (.aload_n 0) 1))) (and (and (zk cX12_atom 118 (.invokevirtual 188) 3) (zk cX12_atom 121 (.pop) 1)) (and (zk cX12_atom 122 (.iconst 0) 1) (zk cX12_atom 123 (.ireturn) 1)))) (and (and (and (zk cX12_atom 93 (.iconst 0) 1) (zk cX12_atom 94 (.istore_n 2) 1)) (and (zk cX12_atom 95 (.iconst 0) 1) (zk cX12_atom 96 (.istore_n 3) 1))) (and (and (zk cX12_atom 38 (.iload_n 1) 1) (zk cX12_atom 39 (.bipush 91) 2)) (and (zk cX12_atom 41 (.if_icmp .ne 40) 3) (zk cX12_atom 81 (.aload_n 0) 1))))) (and (and (and (and (zk cX12_atom 82 (.invokevirtual 224) 3) (zk cX12_atom 85 (.ifCond .ne 8) 3)) (and (zk cX12_atom 88 (.aload_n 0) 1) (zk cX12_atom 89 (.invokevirtual 188) 3))) (and (and (zk cX12_atom 92 (.pop) 1) (zk cX12_atom 44 (.aload_n 0) 1)) (and (zk cX12_atom 45 (.invokevirtual 214) 3) (zk cX12_atom 48 (.ifCond .ne 5) 3)))) (and (and (and (zk cX12_atom 53 (.aload_n 0) 1) (zk cX12_atom 54 (.invokevirtual 217) 3)) (and (zk cX12_atom 57 (.istore_n 2) 1) (zk cX12_atom 58 (.aload_n 0) 1))) (and (and (zk cX12_atom 59 (.bipush 93) 2) (zk cX12_atom 61 (.invokevirtual 220) 3)) (and (zk cX12_atom 64 (.ifCond .ne 5) 3) (zk cX12_atom 69 (.aload_n 0) 1)))))) = true := by decide +kernel
theorem dX12_atom_154 : decode cX12_atom 154 = .ok (.putfield 173, 3) := zk_of (zk_l (zk_l (zk_l (zk_l (zk_l zdX12_atom_154)))))
theorem dX12_atom_157 : decode cX12_atom 157 = .ok (.iinc 3 1, 3) := zk_of (zk_r (zk_l (zk_l (zk_l (zk_l zdX12_atom_154)))))
theorem dX12_atom_160 : decode cX12_atom 160 = .ok (.goto (-63), 3) := zk_of (zk_l (zk_r (zk_l (zk_l (zk_l zdX12_atom_154)))))
theorem dX12_atom_117 : decode cX12_atom 117 = .ok (.aload_n 0, 1) := zk_of (zk_r (zk_r (zk_l (zk_l (zk_l zdX12_atom_154)))))
theorem dX12_atom_118 : decode cX12_atom 118 = .ok (.invokevirtual 188, 3) := zk_of (zk_l (zk_l (zk_r (zk_l (zk_l zdX12_atom_154)))))
theorem dX12_atom_121 : decode cX12_atom 121 = .ok (.pop, 1) := zk_of (zk_r (zk_l (zk_r (zk_l (zk_l zdX12_atom_154)))))
theorem dX12_atom_122 : decode cX12_atom 122 = .ok (.iconst 0, 1) := zk_of (zk_l (zk_r (zk_r (zk_l (zk_l zdX12_atom_154)))))
theorem dX12_atom_123 : decode cX12_atom 123 = .ok (.ireturn, 1) := zk_of (zk_r (zk_r (zk_r (zk_l (zk_l zdX12_atom_154)))))
theorem dX12_atom_93 : decode cX12_atom 93 = .ok (.iconst 0, 1) := zk_of (zk_l (zk_l (zk_l (zk_r (zk_l zdX12_atom_154)))))
theorem dX12_atom_94 : decode cX12_atom 94 = .ok (.istore_n 2, 1) := zk_of (zk_r (zk_l (zk_l (zk_r (zk_l zdX12_atom_154)))))
theorem dX12_atom_95 : decode cX12_atom 95 = .ok (.iconst 0, 1) := zk_of (zk_l (zk_r (zk_l (zk_r (zk_l zdX12_atom_154)))))
theorem dX12_atom_96 : decode cX12_atom 96 = .ok (.istore_n 3, 1) := zk_of (zk_r (zk_r (zk_l (zk_r (zk_l zdX12_atom_154)))))
theorem dX12_atom_38 : decode cX12_atom 38 = .ok (.iload_n 1, 1) := zk_of (zk_l (zk_l (zk_r (zk_r (zk_l zdX12_atom_154)))))
theorem dX12_atom_39 : decode cX12_atom 39 = .ok (.bipush 91, 2) := zk_of (zk_r (zk_l (zk_r (zk_r (zk_l zdX12_atom_154)))))
theorem dX12_atom_41 : decode cX12_atom 41 = .ok (.if_icmp .ne 40, 3) := zk_of (zk_l (zk_r (zk_r (zk_r (zk_l zdX12_atom_154)))))
theorem dX12_atom_81 : decode cX12_atom 81 = .ok (.aload_n 0, 1) := zk_of (zk_r (zk_r (zk_r (zk_r (zk_l zdX12_atom_154)))))
theorem dX12_atom_82 : decode cX12_atom 82 = .ok (.invokevirtual 224, 3) := zk_of (zk_l (zk_l (zk_l (zk_l (zk_r zdX12_atom_154)))))
theorem dX12_atom_85 : decode cX12_atom 85 = .ok (.ifCond .ne 8, 3) := zk_of (zk_r (zk_l (zk_l (zk_l (zk_r zdX12_atom_154)))))
theorem dX12_atom_88 : decode cX12_atom 88 = .ok (.aload_n 0, 1) := zk_of (zk_l (zk_r (zk_l (zk_l (zk_r zdX12_atom_154)))))
theorem dX12_atom_89 : decode cX12_atom 89 = .ok (.invokevirtual 188, 3) := zk_of (zk_r (zk_r (zk_l (zk_l (zk_r zdX12_atom_154)))))
theorem dX12_atom_92 : decode cX12_atom 92 = .ok (.pop, 1) := zk_of (zk_l (zk_l (zk_r (zk_l (zk_r zdX12_atom_154)))))
theorem dX12_atom_44 : decode cX12_atom 44 = .ok (.aload_n 0, 1) := zk_of (zk_r (zk_l (zk_r (zk_l (zk_r zdX12_atom_154)))))
theorem dX12_atom_45 : decode cX12_atom 45 = .ok (.invokevirtual 214, 3) := zk_of (zk_l (zk_r (zk_r (zk_l (zk_r zdX12_atom_154)))))
theorem dX12_atom_48 : decode cX12_atom 48 = .ok (.ifCond .ne 5, 3) := zk_of (zk_r (zk_r (zk_r (zk_l (zk_r zdX12_atom_154)))))
theorem dX12_atom_53 : decode cX12_atom 53 = .ok (.aload_n 0, 1) := zk_of (zk_l (zk_l (zk_l (zk_r (zk_r zdX12_atom_154)))))
theorem dX12_atom_54 : decode cX12_atom 54 = .ok (.invokevirtual 217, 3) := zk_of (zk_r (zk_l (zk_l (zk_r (zk_r zdX12_atom_154)))))
theorem dX12_atom_57 : decode cX12_atom 57 = .ok (.istore_n 2, 1) := zk_of (zk_l (zk_r (zk_l (zk_r (zk_r zdX12_atom_154)))))
theorem dX12_atom_58 : decode cX12_atom 58 = .ok (.aload_n 0, 1) := zk_of (zk_r (zk_r (zk_l (zk_r (zk_r zdX12_atom_154)))))
theorem dX12_atom_59 : decode cX12_atom 59 = .ok (.bipush 93, 2) := zk_of (zk_l (zk_l (zk_r (zk_r (zk_r zdX12_atom_154)))))
theorem dX12_atom_61 : decode cX12_atom 61 = .ok (.invokevirtual 220, 3) := zk_of (zk_r (zk_l (zk_r (zk_r (zk_r zdX12_atom_154)))))
theorem dX12_atom_64 : decode cX12_atom 64 = .ok (.ifCond .ne 5, 3) := zk_of (zk_l (zk_r (zk_r (zk_r (zk_r zdX12_atom_154)))))
theorem dX12_atom_69 : decode cX12_atom 69 = .ok (.aload_n 0, 1) := zk_of (zk_r (zk_r (zk_r (zk_r (zk_r zdX12_atom_154)))))
set_option maxRecDepth 20000 in
theorem ggX12_atom_X12_fails : GoodIn wsX12_atom wsX12_fails := goodIn_r _ [110, 5, 2, 141, 142, 143, 144, 145, 146, 147, 148, 149, 150, 151, 152, 153, 154, 155, 156, 157, 158, 159, 160, 161, 162, 163, 164, 165, 166, 167, 168, 169, 170, 171, 172, 173, 174, 175, 176, 177, 178, 179, 180, 181, 182, 183, 184, 185, 186, 187, 188, 189, 190, 191, 192, 193, 194, 195, 196, 197, 198, 199, 200, 201, 202, 203, 204, 205, 206, 207, 208, 209] rfl (by decide +kernel)
set_option maxRecDepth 20000 in
theorem gX12_atom_X12_fails : GoodIn wsX12_atom (wsV RX12 188 RX12 yX12_fails wsX12_fails) := goodIn_app (goodIn_of _ (by decide +kernel)) ggX12_atom_X12_fails
set_option maxRecDepth 20000 in
theorem ggX12_atom_X12_goesIn : GoodIn wsX12_atom wsX12_goesIn := goodIn_r _ [106, 4, 2, 107, 108, 109, 11, 110, 5, 141, 142, 143, 144, 145, 146, 147, 148, 149, 150, 151, 152, 153, 154, 155, 156, 157, 158, 159, 160, 161, 162, 163, 164, 165, 166, 167, 168, 169, 170, 171, 172, 173, 174, 175, 176, 177, 178, 179, 180, 181, 182, 183, 184, 185, 186, 187, 188, 189, 190, 191, 192, 193, 194, 195, 196, 197, 198, 199, 200, 201, 202, 203, 204, 205, 206, 207, 208, 209] rfl (by decide +kernel)
set_option maxRecDepth 20000 in
theorem gX12_atom_X12_goesIn : GoodIn wsX12_atom (wsV RX12 214 RX12 yX12_goesIn wsX12_goesIn) := goodIn_app (goodIn_of _ (by decide +kernel)) ggX12_atom_X12_goesIn
set_option maxRecDepth 20000 in
theorem ggX12_atom_X12_sum : GoodIn wsX12_atom wsX12_sum := goodIn_r _ [122, 5, 2, 123, 124, 125, 11, 8, 9, 10, 12, 13, 6, 7, 126, 127, 128, 129, 130, 131, 132, 44, 133, 134, 135, 136, 0, 1, 3, 4, 14, 15, 16, 17, 18, 19, 20, 21, 22, 23, 24, 25, 26, 27, 28, 29, 30, 31, 32, 33, 34, 35, 36, 37, 38, 39, 40, 41, 42, 43, 45, 46, 47, 48, 49, 50, 51, 52, 53, 54, 55, 56, 57, 58, 59, 60, 61, 62, 63, 64, 65, 66, 67, 68, 69, 70, 71, 72, 73, 74, 75, 76, 77, 78, 79, 80, 81, 82, 83, 84, 85, 86, 87, 88, 89, 90, 91, 92, 93, 94, 95, 96, 97, 98, 99, 100, 101, 102, 103, 104, 105, 106, 107, 108, 109, 110, 111, 112, 113, 114, 115, 116, 117, 118, 119, 120, 121, 137, 138, 139, 140, 141, 142, 143, 144, 145, 146, 147, 148, 149, 150, 151, 152, 153, 154, 155, 156, 157, 158, 159, 160, 161, 162, 163, 164, 165, 166, 167, 168, 169, 170, 171, 172, 173, 174, 175, 176, 177, 178, 179, 180, 181, 182, 183, 184, 185, 186, 187, 188, 189, 190, 191, 192, 193, 194, 195, 196, 197, 198, 199, 200, 201, 202, 203, 204, 205, 206, 207, 208, 209] rfl (by decide +kernel)
set_option maxRecDepth 20000 in
theorem gX12_atom_X12_sum : GoodIn wsX12_atom (wsV RX12 217 RX12 yX12_sum wsX12_sum) := goodIn_app (goodIn_of _ (by decide +kernel)) ggX12_atom_X12_sum
set_option maxRecDepth 20000 in
theorem ggX12_atom_X12_takes : GoodIn wsX12_atom wsX12_takes := goodIn_r _ [117, 5, 2, 8, 9, 10, 11, 12, 13, 6, 7, 107, 108, 109, 110, 141, 142, 143, 144, 145, 146, 147, 148, 149, 150, 151, 152, 153, 154, 155, 156, 157, 158, 159, 160, 161, 162, 163, 164, 165, 166, 167, 168, 169, 170, 171, 172, 173, 174, 175, 176, 177, 178, 179, 180, 181, 182, 183, 184, 185, 186, 187, 188, 189, 190, 191, 192, 193, 194, 195, 196, 197, 198, 199, 200, 201, 202, 203, 204, 205, 206, 207, 208, 209] rfl (by decide +kernel)
set_option maxRecDepth 20000 in
theorem gX12_atom_X12_takes : GoodIn wsX12_atom (wsV RX12 220 RX12 yX12_takes wsX12_takes) := goodIn_app (goodIn_of _ (by decide +kernel)) ggX12_atom_X12_takes
theorem zdX12_atom_70 : (and (and (and (and (and (zk cX12_atom 70 (.dup) 1) (zk cX12_atom 71 (.getfield 185) 3)) (and (zk cX12_atom 74 (.iconst 1) 1) (zk cX12_atom 75 (.isub) 1))) (and (and (zk cX12_atom 76 (.putfield 185) 3) (zk cX12_atom 79 (.iload_n 2) 1)) (and (zk cX12_atom 80 (.ireturn) 1) (zk cX12_atom 67 (.iconst 0) 1)))) (and (and (and (zk cX12_atom 68 (.ireturn) 1) (zk cX12_atom 51 (.iconst 0) 1)) (and (zk cX12_atom 52 (.ireturn) 1) (zk cX12_atom 0 (.aload_n 0) 1))) (and (and (zk cX12_atom 1 (.invokevirtual 192) 3) (zk cX12_atom 4 (.istore_n 1) 1)) (and (zk cX12_atom 5 (.iload_n 1) 1) (zk cX12_atom 6 (.iconst (-1)) 1))))) (and (and (and (and (zk cX12_atom 7 (.if_icmp .eq 31) 3) (zk cX12_atom 10 (.aload_n 0) 1)) (and (zk cX12_atom 11 (.getfield 31) 3) (zk cX12_atom 14 (.iload_n 1) 1))) (and (and (zk cX12_atom 15 (.invokevirtual 209) 3) (zk cX12_atom 18 (.ifCond .lt 20) 3)) (and (zk cX12_atom 21 (.aload_n 0) 1) (zk cX12_atom 22 (.dup) 1)))) (and (and (and (zk cX12_atom 23 (.getfield 173) 3) (zk cX12_atom 26 (.iconst 1) 1)) (and (zk cX12_atom 27 (.iadd) 1) (zk cX12_atom 28 (.putfield 173) 3))) (and (and (zk cX12_atom 31 (.aload_n 0) 1) (zk cX12_atom 32 (.getfield 23) 3)) (and (zk cX12_atom 35 (.iload_n 1) 1) (zk cX12_atom 36 (.iaload) 1)))))) = true := by decide +kernel
theorem dX12_atom_70 : decode cX12_atom 70 = .ok (.dup, 1) := zk_of (zk_l (zk_l (zk_l (zk_l (zk_l zdX12_atom_70)))))
theorem dX12_atom_71 : decode cX12_atom 71 = .ok (.getfield 185, 3) := zk_of (zk_r (zk_l (zk_l (zk_l (zk_l zdX12_atom_70)))))
theorem dX12_atom_74 : decode cX12_atom 74 = .ok (.iconst 1, 1) := zk_of (zk_l (zk_r (zk_l (zk_l (zk_l zdX12_atom_70)))))
theorem dX12_atom_75 : decode cX12_atom 75 = .ok (.isub, 1) := zk_of (zk_r (zk_r (zk_l (zk_l (zk_l zdX12_atom_70)))))
theorem dX12_atom_76 : decode cX12_atom 76 = .ok (.putfield 185, 3) := zk_of (zk_l (zk_l (zk_r (zk_l (zk_l zdX12_atom_70)))))
theorem dX12_atom_79 : decode cX12_atom 79 = .ok (.iload_n 2, 1) := zk_of (zk_r (zk_l (zk_r (zk_l (zk_l zdX12_atom_70)))))
theorem dX12_atom_80 : decode cX12_atom 80 = .ok (.ireturn, 1) := zk_of (zk_l (zk_r (zk_r (zk_l (zk_l zdX12_atom_70)))))
theorem dX12_atom_67 : decode cX12_atom 67 = .ok (.iconst 0, 1) := zk_of (zk_r (zk_r (zk_r (zk_l (zk_l zdX12_atom_70)))))
theorem dX12_atom_68 : decode cX12_atom 68 = .ok (.ireturn, 1) := zk_of (zk_l (zk_l (zk_l (zk_r (zk_l zdX12_atom_70)))))
theorem dX12_atom_51 : decode cX12_atom 51 = .ok (.iconst 0, 1) := zk_of (zk_r (zk_l (zk_l (zk_r (zk_l zdX12_atom_70)))))
theorem dX12_atom_52 : decode cX12_atom 52 = .ok (.ireturn, 1) := zk_of (zk_l (zk_r (zk_l (zk_r (zk_l zdX12_atom_70)))))
theorem dX12_atom_0 : decode cX12_atom 0 = .ok (.aload_n 0, 1) := zk_of (zk_r (zk_r (zk_l (zk_r (zk_l zdX12_atom_70)))))
theorem dX12_atom_1 : decode cX12_atom 1 = .ok (.invokevirtual 192, 3) := zk_of (zk_l (zk_l (zk_r (zk_r (zk_l zdX12_atom_70)))))
theorem dX12_atom_4 : decode cX12_atom 4 = .ok (.istore_n 1, 1) := zk_of (zk_r (zk_l (zk_r (zk_r (zk_l zdX12_atom_70)))))
theorem dX12_atom_5 : decode cX12_atom 5 = .ok (.iload_n 1, 1) := zk_of (zk_l (zk_r (zk_r (zk_r (zk_l zdX12_atom_70)))))
theorem dX12_atom_6 : decode cX12_atom 6 = .ok (.iconst (-1), 1) := zk_of (zk_r (zk_r (zk_r (zk_r (zk_l zdX12_atom_70)))))
theorem dX12_atom_7 : decode cX12_atom 7 = .ok (.if_icmp .eq 31, 3) := zk_of (zk_l (zk_l (zk_l (zk_l (zk_r zdX12_atom_70)))))
theorem dX12_atom_10 : decode cX12_atom 10 = .ok (.aload_n 0, 1) := zk_of (zk_r (zk_l (zk_l (zk_l (zk_r zdX12_atom_70)))))
theorem dX12_atom_11 : decode cX12_atom 11 = .ok (.getfield 31, 3) := zk_of (zk_l (zk_r (zk_l (zk_l (zk_r zdX12_atom_70)))))
theorem dX12_atom_14 : decode cX12_atom 14 = .ok (.iload_n 1, 1) := zk_of (zk_r (zk_r (zk_l (zk_l (zk_r zdX12_atom_70)))))
theorem dX12_atom_15 : decode cX12_atom 15 = .ok (.invokevirtual 209, 3) := zk_of (zk_l (zk_l (zk_r (zk_l (zk_r zdX12_atom_70)))))
theorem dX12_atom_18 : decode cX12_atom 18 = .ok (.ifCond .lt 20, 3) := zk_of (zk_r (zk_l (zk_r (zk_l (zk_r zdX12_atom_70)))))
theorem dX12_atom_21 : decode cX12_atom 21 = .ok (.aload_n 0, 1) := zk_of (zk_l (zk_r (zk_r (zk_l (zk_r zdX12_atom_70)))))
theorem dX12_atom_22 : decode cX12_atom 22 = .ok (.dup, 1) := zk_of (zk_r (zk_r (zk_r (zk_l (zk_r zdX12_atom_70)))))
theorem dX12_atom_23 : decode cX12_atom 23 = .ok (.getfield 173, 3) := zk_of (zk_l (zk_l (zk_l (zk_r (zk_r zdX12_atom_70)))))
theorem dX12_atom_26 : decode cX12_atom 26 = .ok (.iconst 1, 1) := zk_of (zk_r (zk_l (zk_l (zk_r (zk_r zdX12_atom_70)))))
theorem dX12_atom_27 : decode cX12_atom 27 = .ok (.iadd, 1) := zk_of (zk_l (zk_r (zk_l (zk_r (zk_r zdX12_atom_70)))))
theorem dX12_atom_28 : decode cX12_atom 28 = .ok (.putfield 173, 3) := zk_of (zk_r (zk_r (zk_l (zk_r (zk_r zdX12_atom_70)))))
theorem dX12_atom_31 : decode cX12_atom 31 = .ok (.aload_n 0, 1) := zk_of (zk_l (zk_l (zk_r (zk_r (zk_r zdX12_atom_70)))))
theorem dX12_atom_32 : decode cX12_atom 32 = .ok (.getfield 23, 3) := zk_of (zk_r (zk_l (zk_r (zk_r (zk_r zdX12_atom_70)))))
theorem dX12_atom_35 : decode cX12_atom 35 = .ok (.iload_n 1, 1) := zk_of (zk_l (zk_r (zk_r (zk_r (zk_r zdX12_atom_70)))))
theorem dX12_atom_36 : decode cX12_atom 36 = .ok (.iaload, 1) := zk_of (zk_r (zk_r (zk_r (zk_r (zk_r zdX12_atom_70)))))
set_option maxRecDepth 20000 in
theorem ggX12_atom_X12_look : GoodIn wsX12_atom wsX12_look := goodIn_r _ [12, 2, 13, 6, 7, 141, 142, 143, 144, 145, 146, 147, 148, 149, 150, 151, 152, 153, 154, 155, 156, 157, 158, 159, 160, 161, 162, 163, 164, 165, 166, 167, 168, 169, 170, 171, 172, 173, 174, 175, 176, 177, 178, 179, 180, 181, 182, 183, 184, 185, 186, 187, 188, 189, 190, 191, 192, 193, 194, 195, 196, 197, 198, 199, 200, 201, 202, 203, 204, 205, 206, 207, 208, 209] rfl (by decide +kernel)
set_option maxRecDepth 20000 in
theorem gX12_atom_X12_look : GoodIn wsX12_atom (wsV RX12 192 RX12 yX12_look wsX12_look) := goodIn_app (goodIn_of _ (by decide +kernel)) ggX12_atom_X12_look
set_option maxRecDepth 20000 in
theorem ggX12_atom_J0_indexOf_0f7a4 : GoodIn wsX12_atom wsJ0_indexOf_0f7a4 := goodIn_r _ [18, 19, 20, 21, 17, 22, 23, 24, 25, 26, 27, 28, 29, 30, 31, 32, 33, 34, 35, 36, 37, 38, 39, 40, 41, 42, 43, 44, 45, 46, 47, 48, 49, 50, 51, 52, 53, 54, 55, 56, 57, 58, 59, 60, 61, 62, 63, 64, 65, 66, 67, 68, 69, 70, 71, 72, 73, 74, 75, 76, 77, 78, 79, 80, 81, 82, 83, 84, 85, 86, 87, 88, 89, 90, 91, 92, 93, 94, 95, 96, 97, 98, 99, 100, 101, 102] rfl (by decide +kernel)
set_option maxRecDepth 20000 in
theorem gX12_atom_J0_indexOf_0f7a4 : GoodIn wsX12_atom (wsV RX12 209 RJ0 yJ0_indexOf_0f7a4 wsJ0_indexOf_0f7a4) := goodIn_app (goodIn_of _ (by decide +kernel)) ggX12_atom_J0_indexOf_0f7a4
theorem dX12_atom_37 : decode cX12_atom 37 = .ok (.ireturn, 1) := by decide +kernel
/-- HissHornModel.atom()I of cell 0 -/
theorem hX12_atom_0_X12 : ∀ w ∈ u_ws RX12 TX12 69, w ∈ wsX12_atom := fun w h => (List.mem_cons_of_mem _ (List.mem_append_right _ h))
theorem mX12_atom_0_1 : Cond.fieldLink RX12 182 "HissHornModel" "fault" "I" ∈ wsX12_atom := (List.mem_cons_of_mem _ (List.mem_append_left _ (List.mem_append_left _ (List.mem_of_getElem? (i := 4) rfl))))
theorem mX12_atom_0_2 : Cond.fieldLink RX12 26 "HissHornModel" "text" "[B" ∈ wsX12_atom := (List.mem_cons_of_mem _ (List.mem_append_left _ (List.mem_append_left _ (List.mem_of_getElem? (i := 5) rfl))))
theorem mX12_atom_0_3 : Cond.fieldLink RX12 179 "HissHornModel" "begins" "I" ∈ wsX12_atom := (List.mem_cons_of_mem _ (List.mem_append_left _ (List.mem_append_left _ (List.mem_of_getElem? (i := 6) rfl))))
theorem mX12_atom_0_4 : Cond.fieldLink RX12 173 "HissHornModel" "at" "I" ∈ wsX12_atom := (List.mem_cons_of_mem _ (List.mem_append_left _ (List.mem_append_left _ (List.mem_of_getElem? (i := 1) rfl))))
def LX12_atom_0_97 (rc : Nat → Int32 → SX → Option (Int32 × SX)) (k117 : SX → Option (Int32 × SX)) : Nat → Int32 → Int32 → SX → Option (Int32 × SX)
  | 0, _, _, _ => none
  | n + 1, z2, z3, u => ((fX12_isDigit_0  u).bind fun q => match q with | (r7, u8) => (if r7 = 0 then (some (z2, u8)) else (if (u8.1 7) = (-1) then (if z3 = 4 then (k117 u8) else (if u8.1 2 = 2 then (gd (inb ((u8.1 4) + (u8.1 6)) 120) (lt (((10 * z2) + (u8.2.1 1 ((u8.1 4) + (u8.1 6)).toNatClampNeg)) - 48) fun v11 => (lt (sI u8 6 ((u8.1 6) + 1)) fun u13 => ((LX12_atom_0_97 rc k117 n) v11 (z3 + 1) u13)))) else (if u8.1 2 = 3 then (gd (inb ((u8.1 4) + (u8.1 6)) 4320) (lt (((10 * z2) + (u8.2.1 2 ((u8.1 4) + (u8.1 6)).toNatClampNeg)) - 48) fun v16 => (lt (sI u8 6 ((u8.1 6) + 1)) fun u18 => ((LX12_atom_0_97 rc k117 n) v16 (z3 + 1) u18)))) else none))) else (some (z2, u8)))))
def GX12_atom_0_117 (rc : Nat → Int32 → SX → Option (Int32 × SX))  (u : SX) : Option (Int32 × SX) := ((fX12_fails_0  u).bind fun q => match q with | (r20, u21) => (some (0, u21)))
def GX12_atom_0_93 (rc : Nat → Int32 → SX → Option (Int32 × SX))  (u : SX) : Option (Int32 × SX) := (LX12_atom_0_97 rc (GX12_atom_0_117 rc ) 5000 0 0 u)
theorem mX12_atom_0_5 : Cond.fieldLink RX12 185 "HissHornModel" "deep" "I" ∈ wsX12_atom := (List.mem_cons_of_mem _ (List.mem_append_left _ (List.mem_append_left _ (List.mem_of_getElem? (i := 3) rfl))))
def GX12_atom_0_38 (rc : Nat → Int32 → SX → Option (Int32 × SX)) (z1 : Int32) (u : SX) : Option (Int32 × SX) := (if z1 = 91 then ((fX12_goesIn_0  u).bind fun q => match q with | (r26, u27) => (if r26 = 0 then (some (0, u27)) else ((rc 0  0 u27).bind fun q => match q with | (r29, u30) => ((fX12_takes_0 93 u30).bind fun q => match q with | (r32, u33) => (if r32 = 0 then (some (0, u33)) else (lt (sI u33 8 ((u33.1 8) - 1)) fun u35 => (some (r29, u35)))))))) else ((fX12_isDigit_0  u).bind fun q => match q with | (r4, u5) => (if r4 = 0 then ((fX12_fails_0  u5).bind fun q => match q with | (r23, u24) => (GX12_atom_0_93 rc u24)) else (GX12_atom_0_93 rc u5))))
theorem mX12_atom_0_6 : Cond.fieldLink RX12 31 "HissHornModel" "allowed" "Ljava/lang/String;" ∈ wsX12_atom := (List.mem_cons_of_mem _ (List.mem_append_left _ (List.mem_append_left _ (List.mem_of_getElem? (i := 0) rfl))))
theorem mX12_atom_0_7 : Cond.fieldLink RX12 23 "HissHornModel" "letters" "[I" ∈ wsX12_atom := (List.mem_cons_of_mem _ (List.mem_append_left _ (List.mem_append_left _ (List.mem_of_getElem? (i := 2) rfl))))
def fX12_atom_0 (rc : Nat → Int32 → SX → Option (Int32 × SX))  (u : SX) : Option (Int32 × SX) := ((fX12_look_0  u).bind fun q => match q with | (r1, u2) => (if r1 = (-1) then (GX12_atom_0_38 rc r1 u2) else (if u2.1 10 = 5 then ((fJ0_indexOf_0f7a4_s4 r1).bind fun r37 => (if r37 < 0 then (GX12_atom_0_38 rc r1 u2) else (lt (sI u2 6 ((u2.1 6) + 1)) fun u40 => (gd (inb r1 128) (some (u40.2.1 5 r1.toNatClampNeg, u40)))))) else (if u2.1 10 = 6 then ((fJ0_indexOf_0f7a4_s5 r1).bind fun r43 => (if r43 < 0 then (GX12_atom_0_38 rc r1 u2) else (lt (sI u2 6 ((u2.1 6) + 1)) fun u46 => (gd (inb r1 128) (some (u46.2.1 5 r1.toNatClampNeg, u46)))))) else (if u2.1 10 = 7 then ((fJ0_indexOf_0f7a4_s6 r1).bind fun r49 => (if r49 < 0 then (GX12_atom_0_38 rc r1 u2) else (lt (sI u2 6 ((u2.1 6) + 1)) fun u52 => (gd (inb r1 128) (some (u52.2.1 5 r1.toNatClampNeg, u52)))))) else none)))))
set_option maxHeartbeats 4000000 in
set_option maxRecDepth 100000 in
theorem wLX12_atom_0_97 {p : Program} {l : Launch} {e : Env} {s : State} {m : MethodId} {args : Array Value} {below : List Frame} {meth : Method} {c : Code} {D : va_G} {cy : Nat → ClassId} {ad st : Nat → Nat} (C : Cx RX12 cX12_atom 4 (some .int) wsX12_atom p s m args meth c) (hK : Ky D [(cy 0, .int), (cy 1, .long), (cy 2, .boolean), (cy 3, .byte), (cy 4, .object "HissHorn$Text")] st s) (hJ : JM ad st) {rc : Nat → Int32 → SX → Option (Int32 × SX)} {dd : Nat} (hrc : hRX12sumg l D cy ad st rc dd) {r : Int32} {u' : SX} {k117 : SX → Option (Int32 × SX)} (hk117 : ∀  (u : SX) (H : Heap) (locs : List Loc) (ls : Array Slot), k117 u = some (r, u') → va_P D vwCl (VM cy ad st u) H → va_S (Ax (AM ad) s.heap.size) s.heap H locs → lv_has ls 4 [(0, .ref (ad 0))] → W p l e (rmX12sumg (dd + 1)) s m args below meth c H locs 0 0 (MQ below (Qi D (VM cy ad st) (AM ad) s.heap.size r u') args s 0 0 (Ax (AM ad) s.heap.size)) (F0 m 117 ls [])) : ∀ (n : Nat) (z2 : Int32) (z3 : Int32) (u : SX) (H : Heap) (locs : List Loc) (ls : Array Slot), LX12_atom_0_97 rc k117 n z2 z3 u = some (r, u') → va_P D vwCl (VM cy ad st u) H → va_S (Ax (AM ad) s.heap.size) s.heap H locs → lv_has ls 4 [(0, .ref (ad 0)), (2, .int z2), (3, .int z3)] → W p l e (rmX12sumg (dd + 1)) s m args below meth c H locs 0 0 (MQ below (Qi D (VM cy ad st) (AM ad) s.heap.size r u') args s 0 0 (Ax (AM ad) s.heap.size)) (F0 m 97 ls []) := by
  intro n
  induction n with
  | zero =>
    intro z2 z3 u H locs ls h
    exact absurd h (by intro q; cases q)
  | succ n ih =>
    intro z2 z3 u H locs ls h hP hS hl
    rw [LX12_atom_0_97] at h
    refine lv_aload_n C.1 C.2.1 dX12_atom_97 rfl (lv_at hl 0 rfl) ?_
    obtain ⟨⟨r7, u8⟩, hc9, h⟩ := bd_some h
    try dsimp only at h
    refine cg_i (As := []) (rest := []) (AM_ge hJ) C hK hP hS (metX12_isDigit_0 l D cy ad st hJ _  hc9) (cwV 0 C.2.2.2.2.2.1 gX12_atom_X12_isDigit rfl rfl rfl (by decide +kernel) ⟨(Nat.le_trans (m := 4) (Nat.le_of_ble_eq_true rfl) (rmX12sumg_f _)), (Nat.le_trans (m := 91) (Nat.le_of_ble_eq_true rfl) (rmX12sumg_l _))⟩) 0 12 rfl rfl rfl hl.1 rfl (Nat.le_of_ble_eq_true rfl) dX12_atom_98 ⟨Nat.zero_le _, Nat.zero_le _⟩ (fun H locs hP hS => ?_)
    refine lv_if_eq (tgt := 163) C.1 C.2.1 dX12_atom_101 (by decide) (fun c101 => ?_) (fun c101 => ?_)
    · rw [if_pos c101] at h
      refine lv_iload_n C.1 C.2.1 dX12_atom_163 rfl (lv_at hl 1 rfl) ?_
      cases h
      exact rt_i C hP hS dX12_atom_164
    · rw [if_neg c101] at h
      refine lv_aload_n C.1 C.2.1 dX12_atom_104 rfl (lv_at hl 0 rfl) ?_
      refine gM_0_fault C hX12_atom_0_X12 hK hP mX12_atom_0_1 dX12_atom_105 ?_
      refine lv_iconst (v := (-1)) C.1 C.2.1 dX12_atom_108 (by decide) ?_
      refine lv_icmp_ne (tgt := 163) C.1 C.2.1 dX12_atom_109 (by decide) (fun c109 => ?_) (fun c109 => ?_)
      · rw [if_neg c109] at h
        refine lv_iload_n C.1 C.2.1 dX12_atom_163 rfl (lv_at hl 1 rfl) ?_
        cases h
        exact rt_i C hP hS dX12_atom_164
      · rw [if_pos c109] at h
        refine lv_iload_n C.1 C.2.1 dX12_atom_112 rfl (lv_at hl 2 rfl) ?_
        refine lv_iconst (v := 4) C.1 C.2.1 dX12_atom_113 (by decide) ?_
        refine lv_icmp_ne (tgt := 124) C.1 C.2.1 dX12_atom_114 (by decide) (fun c114 => ?_) (fun c114 => ?_)
        · rw [if_neg c114] at h
          refine lv_bipush (v := 10) C.1 C.2.1 dX12_atom_124 (by decide) ?_
          refine lv_iload_n C.1 C.2.1 dX12_atom_126 rfl (lv_at hl 1 rfl) ?_
          refine lv_imul C.1 C.2.1 dX12_atom_127 ?_
          refine lv_aload_n C.1 C.2.1 dX12_atom_128 rfl (lv_at hl 0 rfl) ?_
          refine gM_0_text C hX12_atom_0_X12 hK hP mX12_atom_0_2 dX12_atom_129 ?_
          by_cases c129_1 : u8.1 2 = 2
          · rw [if_pos c129_1] at h
            refine W.eq (g2 := F0 m 132 ls [.ref (ad 1), .int (10 * z2)]) (by rw [c129_1]; rfl) ?_
            refine lv_aload_n C.1 C.2.1 dX12_atom_132 rfl (lv_at hl 0 rfl) ?_
            refine gM_0_begins C hX12_atom_0_X12 hK hP mX12_atom_0_3 dX12_atom_133 ?_
            refine lv_aload_n C.1 C.2.1 dX12_atom_136 rfl (lv_at hl 0 rfl) ?_
            refine gM_0_at C hX12_atom_0_X12 hK hP mX12_atom_0_4 dX12_atom_137 ?_
            refine lv_iadd C.1 C.2.1 dX12_atom_140 ?_
            obtain ⟨hg10, h⟩ := gd_some h
            refine lM_1 C hK hP hg10 dX12_atom_141 ?_
            refine lv_iadd C.1 C.2.1 dX12_atom_142 ?_
            refine lv_bipush (v := 48) C.1 C.2.1 dX12_atom_143 (by decide) ?_
            refine lv_isub C.1 C.2.1 dX12_atom_145 ?_
            refine lv_topi (fun v11 hv12 => ?_)
            replace h := lt_e hv12 h
            try dsimp only at h
            refine lv_istore_n (lv' := [(2, .int v11), (0, .ref (ad 0)), (3, .int z3)]) C.1 C.2.1 dX12_atom_146 rfl hl (by decide) rfl (fun ls hl => ?_)
            replace hl := lv_sub (l' := [(0, .ref (ad 0)), (2, .int v11), (3, .int z3)]) hl [1, 0, 2] rfl
            refine lv_aload_n C.1 C.2.1 dX12_atom_147 rfl (lv_at hl 0 rfl) ?_
            refine lv_dup C.1 C.2.1 dX12_atom_148 rfl ?_
            refine gM_0_at C hX12_atom_0_X12 hK hP mX12_atom_0_4 dX12_atom_149 ?_
            refine lv_iconst (v := 1) C.1 C.2.1 dX12_atom_152 (by decide) ?_
            refine lv_iadd C.1 C.2.1 dX12_atom_153 ?_
            refine pM_0_at C hX12_atom_0_X12 hK hP hJ hS mX12_atom_0_4 dX12_atom_154 (fun H locs hP hS => ?_)
            obtain ⟨u13, hu14, h⟩ := lt_some h
            rw [← hu14] at hP
            refine lv_iinc (v := z3 + 1) (lv' := [(3, .int (z3 + 1)), (0, .ref (ad 0)), (2, .int v11)]) C.1 C.2.1 dX12_atom_157 hl (k := 2) rfl rfl (by decide) rfl (fun ls hl => ?_)
            replace hl := lv_sub (l' := [(0, .ref (ad 0)), (2, .int v11), (3, .int (z3 + 1))]) hl [1, 2, 0] rfl
            refine lv_goto (tgt := 97) C.1 C.2.1 dX12_atom_160 (by decide) ?_
            exact ih _ _ _ _ _ _ h hP hS hl
          · rw [if_neg c129_1] at h
            by_cases c129_2 : u8.1 2 = 3
            · rw [if_pos c129_2] at h
              refine W.eq (g2 := F0 m 132 ls [.ref (ad 2), .int (10 * z2)]) (by rw [c129_2]; rfl) ?_
              refine lv_aload_n C.1 C.2.1 dX12_atom_132 rfl (lv_at hl 0 rfl) ?_
              refine gM_0_begins C hX12_atom_0_X12 hK hP mX12_atom_0_3 dX12_atom_133 ?_
              refine lv_aload_n C.1 C.2.1 dX12_atom_136 rfl (lv_at hl 0 rfl) ?_
              refine gM_0_at C hX12_atom_0_X12 hK hP mX12_atom_0_4 dX12_atom_137 ?_
              refine lv_iadd C.1 C.2.1 dX12_atom_140 ?_
              obtain ⟨hg15, h⟩ := gd_some h
              refine lM_2 C hK hP hg15 dX12_atom_141 ?_
              refine lv_iadd C.1 C.2.1 dX12_atom_142 ?_
              refine lv_bipush (v := 48) C.1 C.2.1 dX12_atom_143 (by decide) ?_
              refine lv_isub C.1 C.2.1 dX12_atom_145 ?_
              refine lv_topi (fun v16 hv17 => ?_)
              replace h := lt_e hv17 h
              try dsimp only at h
              refine lv_istore_n (lv' := [(2, .int v16), (0, .ref (ad 0)), (3, .int z3)]) C.1 C.2.1 dX12_atom_146 rfl hl (by decide) rfl (fun ls hl => ?_)
              replace hl := lv_sub (l' := [(0, .ref (ad 0)), (2, .int v16), (3, .int z3)]) hl [1, 0, 2] rfl
              refine lv_aload_n C.1 C.2.1 dX12_atom_147 rfl (lv_at hl 0 rfl) ?_
              refine lv_dup C.1 C.2.1 dX12_atom_148 rfl ?_
              refine gM_0_at C hX12_atom_0_X12 hK hP mX12_atom_0_4 dX12_atom_149 ?_
              refine lv_iconst (v := 1) C.1 C.2.1 dX12_atom_152 (by decide) ?_
              refine lv_iadd C.1 C.2.1 dX12_atom_153 ?_
              refine pM_0_at C hX12_atom_0_X12 hK hP hJ hS mX12_atom_0_4 dX12_atom_154 (fun H locs hP hS => ?_)
              obtain ⟨u18, hu19, h⟩ := lt_some h
              rw [← hu19] at hP
              refine lv_iinc (v := z3 + 1) (lv' := [(3, .int (z3 + 1)), (0, .ref (ad 0)), (2, .int v16)]) C.1 C.2.1 dX12_atom_157 hl (k := 2) rfl rfl (by decide) rfl (fun ls hl => ?_)
              replace hl := lv_sub (l' := [(0, .ref (ad 0)), (2, .int v16), (3, .int (z3 + 1))]) hl [1, 2, 0] rfl
              refine lv_goto (tgt := 97) C.1 C.2.1 dX12_atom_160 (by decide) ?_
              exact ih _ _ _ _ _ _ h hP hS hl
            · rw [if_neg c129_2] at h
              exact absurd h (by intro q; cases q)
        · rw [if_pos c114] at h
          exact hk117 _ _ _ _ h hP hS (lv_sub hl [0] rfl)
set_option maxHeartbeats 4000000 in
set_option maxRecDepth 100000 in
theorem wGX12_atom_0_117 {p : Program} {l : Launch} {e : Env} {s : State} {m : MethodId} {args : Array Value} {below : List Frame} {meth : Method} {c : Code} {D : va_G} {cy : Nat → ClassId} {ad st : Nat → Nat} (C : Cx RX12 cX12_atom 4 (some .int) wsX12_atom p s m args meth c) (hK : Ky D [(cy 0, .int), (cy 1, .long), (cy 2, .boolean), (cy 3, .byte), (cy 4, .object "HissHorn$Text")] st s) (hJ : JM ad st) {rc : Nat → Int32 → SX → Option (Int32 × SX)} {dd : Nat} (hrc : hRX12sumg l D cy ad st rc dd) {r : Int32} {u' : SX}   (u : SX) (H : Heap) (locs : List Loc) (ls : Array Slot) (h : GX12_atom_0_117 rc  u = some (r, u')) (hP : va_P D vwCl (VM cy ad st u) H) (hS : va_S (Ax (AM ad) s.heap.size) s.heap H locs) (hl : lv_has ls 4 [(0, .ref (ad 0))]) : W p l e (rmX12sumg (dd + 1)) s m args below meth c H locs 0 0 (MQ below (Qi D (VM cy ad st) (AM ad) s.heap.size r u') args s 0 0 (Ax (AM ad) s.heap.size)) (F0 m 117 ls []) := by
  unfold GX12_atom_0_117 at h
  refine lv_aload_n C.1 C.2.1 dX12_atom_117 rfl (lv_at hl 0 rfl) ?_
  obtain ⟨⟨r20, u21⟩, hc22, h⟩ := bd_some h
  try dsimp only at h
  refine cg_i (As := []) (rest := []) (AM_ge hJ) C hK hP hS (metX12_fails_0 l D cy ad st hJ _  hc22) (cwV 0 C.2.2.2.2.2.1 gX12_atom_X12_fails rfl rfl rfl (by decide +kernel) ⟨(Nat.le_trans (m := 4) (Nat.le_of_ble_eq_true rfl) (rmX12sumg_f _)), (Nat.le_trans (m := 91) (Nat.le_of_ble_eq_true rfl) (rmX12sumg_l _))⟩) 0 12 rfl rfl rfl hl.1 rfl (Nat.le_of_ble_eq_true rfl) dX12_atom_118 ⟨Nat.zero_le _, Nat.zero_le _⟩ (fun H locs hP hS => ?_)
  refine lv_pop C.1 C.2.1 dX12_atom_121 rfl ?_
  refine lv_iconst (v := 0) C.1 C.2.1 dX12_atom_122 (by decide) ?_
  cases h
  exact rt_i C hP hS dX12_atom_123
set_option maxHeartbeats 4000000 in
set_option maxRecDepth 100000 in
theorem wGX12_atom_0_93 {p : Program} {l : Launch} {e : Env} {s : State} {m : MethodId} {args : Array Value} {below : List Frame} {meth : Method} {c : Code} {D : va_G} {cy : Nat → ClassId} {ad st : Nat → Nat} (C : Cx RX12 cX12_atom 4 (some .int) wsX12_atom p s m args meth c) (hK : Ky D [(cy 0, .int), (cy 1, .long), (cy 2, .boolean), (cy 3, .byte), (cy 4, .object "HissHorn$Text")] st s) (hJ : JM ad st) {rc : Nat → Int32 → SX → Option (Int32 × SX)} {dd : Nat} (hrc : hRX12sumg l D cy ad st rc dd) {r : Int32} {u' : SX}   (u : SX) (H : Heap) (locs : List Loc) (ls : Array Slot) (h : GX12_atom_0_93 rc  u = some (r, u')) (hP : va_P D vwCl (VM cy ad st u) H) (hS : va_S (Ax (AM ad) s.heap.size) s.heap H locs) (hl : lv_has ls 4 [(0, .ref (ad 0))]) : W p l e (rmX12sumg (dd + 1)) s m args below meth c H locs 0 0 (MQ below (Qi D (VM cy ad st) (AM ad) s.heap.size r u') args s 0 0 (Ax (AM ad) s.heap.size)) (F0 m 93 ls []) := by
  unfold GX12_atom_0_93 at h
  refine lv_iconst (v := 0) C.1 C.2.1 dX12_atom_93 (by decide) ?_
  refine lv_istore_n (lv' := [(2, .int 0), (0, .ref (ad 0))]) C.1 C.2.1 dX12_atom_94 rfl hl (by decide) rfl (fun ls hl => ?_)
  replace hl := lv_sub (l' := [(0, .ref (ad 0)), (2, .int 0)]) hl [1, 0] rfl
  refine lv_iconst (v := 0) C.1 C.2.1 dX12_atom_95 (by decide) ?_
  refine lv_istore_n (lv' := [(3, .int 0), (0, .ref (ad 0)), (2, .int 0)]) C.1 C.2.1 dX12_atom_96 rfl hl (by decide) rfl (fun ls hl => ?_)
  replace hl := lv_sub (l' := [(0, .ref (ad 0)), (2, .int 0), (3, .int 0)]) hl [1, 2, 0] rfl
  exact wLX12_atom_0_97 C hK hJ hrc (wGX12_atom_0_117 C hK hJ hrc ) 5000 _ _ _ _ _ _ h hP hS hl
set_option maxHeartbeats 4000000 in
set_option maxRecDepth 100000 in
theorem wGX12_atom_0_38 {p : Program} {l : Launch} {e : Env} {s : State} {m : MethodId} {args : Array Value} {below : List Frame} {meth : Method} {c : Code} {D : va_G} {cy : Nat → ClassId} {ad st : Nat → Nat} (C : Cx RX12 cX12_atom 4 (some .int) wsX12_atom p s m args meth c) (hK : Ky D [(cy 0, .int), (cy 1, .long), (cy 2, .boolean), (cy 3, .byte), (cy 4, .object "HissHorn$Text")] st s) (hJ : JM ad st) {rc : Nat → Int32 → SX → Option (Int32 × SX)} {dd : Nat} (hrc : hRX12sumg l D cy ad st rc dd) {r : Int32} {u' : SX}   (z1 : Int32) (u : SX) (H : Heap) (locs : List Loc) (ls : Array Slot) (h : GX12_atom_0_38 rc z1 u = some (r, u')) (hP : va_P D vwCl (VM cy ad st u) H) (hS : va_S (Ax (AM ad) s.heap.size) s.heap H locs) (hl : lv_has ls 4 [(0, .ref (ad 0)), (1, .int z1)]) : W p l e (rmX12sumg (dd + 1)) s m args below meth c H locs 0 0 (MQ below (Qi D (VM cy ad st) (AM ad) s.heap.size r u') args s 0 0 (Ax (AM ad) s.heap.size)) (F0 m 38 ls []) := by
  unfold GX12_atom_0_38 at h
  refine lv_iload_n C.1 C.2.1 dX12_atom_38 rfl (lv_at hl 1 rfl) ?_
  refine lv_bipush (v := 91) C.1 C.2.1 dX12_atom_39 (by decide) ?_
  refine lv_icmp_ne (tgt := 81) C.1 C.2.1 dX12_atom_41 (by decide) (fun c41 => ?_) (fun c41 => ?_)
  · rw [if_neg c41] at h
    refine lv_aload_n C.1 C.2.1 dX12_atom_81 rfl (lv_at hl 0 rfl) ?_
    obtain ⟨⟨r4, u5⟩, hc6, h⟩ := bd_some h
    try dsimp only at h
    refine cg_i (As := []) (rest := []) (AM_ge hJ) C hK hP hS (metX12_isDigit_0 l D cy ad st hJ _  hc6) (cwV 0 C.2.2.2.2.2.1 gX12_atom_X12_isDigit rfl rfl rfl (by decide +kernel) ⟨(Nat.le_trans (m := 4) (Nat.le_of_ble_eq_true rfl) (rmX12sumg_f _)), (Nat.le_trans (m := 91) (Nat.le_of_ble_eq_true rfl) (rmX12sumg_l _))⟩) 0 12 rfl rfl rfl hl.1 rfl (Nat.le_of_ble_eq_true rfl) dX12_atom_82 ⟨Nat.zero_le _, Nat.zero_le _⟩ (fun H locs hP hS => ?_)
    refine lv_if_ne (tgt := 93) C.1 C.2.1 dX12_atom_85 (by decide) (fun c85 => ?_) (fun c85 => ?_)
    · rw [if_neg c85] at h
      exact wGX12_atom_0_93 C hK hJ hrc _ _ _ _ h hP hS (lv_sub hl [0] rfl)
    · rw [if_pos c85] at h
      refine lv_aload_n C.1 C.2.1 dX12_atom_88 rfl (lv_at hl 0 rfl) ?_
      obtain ⟨⟨r23, u24⟩, hc25, h⟩ := bd_some h
      try dsimp only at h
      refine cg_i (As := []) (rest := []) (AM_ge hJ) C hK hP hS (metX12_fails_0 l D cy ad st hJ _  hc25) (cwV 0 C.2.2.2.2.2.1 gX12_atom_X12_fails rfl rfl rfl (by decide +kernel) ⟨(Nat.le_trans (m := 4) (Nat.le_of_ble_eq_true rfl) (rmX12sumg_f _)), (Nat.le_trans (m := 91) (Nat.le_of_ble_eq_true rfl) (rmX12sumg_l _))⟩) 0 12 rfl rfl rfl hl.1 rfl (Nat.le_of_ble_eq_true rfl) dX12_atom_89 ⟨Nat.zero_le _, Nat.zero_le _⟩ (fun H locs hP hS => ?_)
      refine lv_pop C.1 C.2.1 dX12_atom_92 rfl ?_
      exact wGX12_atom_0_93 C hK hJ hrc _ _ _ _ h hP hS (lv_sub hl [0] rfl)
  · rw [if_pos c41] at h
    refine lv_aload_n C.1 C.2.1 dX12_atom_44 rfl (lv_at hl 0 rfl) ?_
    obtain ⟨⟨r26, u27⟩, hc28, h⟩ := bd_some h
    try dsimp only at h
    refine cg_i (As := []) (rest := []) (AM_ge hJ) C hK hP hS (metX12_goesIn_0 l D cy ad st hJ _  hc28) (cwV 0 C.2.2.2.2.2.1 gX12_atom_X12_goesIn rfl rfl rfl (by decide +kernel) ⟨(Nat.le_trans (m := 4) (Nat.le_of_ble_eq_true rfl) (rmX12sumg_f _)), (Nat.le_trans (m := 91) (Nat.le_of_ble_eq_true rfl) (rmX12sumg_l _))⟩) 0 12 rfl rfl rfl hl.1 rfl (Nat.le_of_ble_eq_true rfl) dX12_atom_45 ⟨Nat.zero_le _, Nat.zero_le _⟩ (fun H locs hP hS => ?_)
    refine lv_if_ne (tgt := 53) C.1 C.2.1 dX12_atom_48 (by decide) (fun c48 => ?_) (fun c48 => ?_)
    · rw [if_neg c48] at h
      refine lv_aload_n C.1 C.2.1 dX12_atom_53 rfl (lv_at hl 0 rfl) ?_
      obtain ⟨⟨r29, u30⟩, hc31, h⟩ := bd_some h
      try dsimp only at h
      refine cg_i (As := []) (rest := []) (AM_ge hJ) C hK hP hS (hrc.1 _  _ _ _ hc31) (cwV 0 C.2.2.2.2.2.1 gX12_atom_X12_sum rfl rfl rfl (by decide +kernel) ⟨rmX12sumg_sf dd, rmX12sumg_sl dd (k := 8 + (5 + 11)) (Nat.le_of_ble_eq_true rfl)⟩) 0 12 rfl rfl rfl hl.1 rfl (Nat.le_of_ble_eq_true rfl) dX12_atom_54 ⟨Nat.zero_le _, Nat.zero_le _⟩ (fun H locs hP hS => ?_)
      refine lv_istore_n (lv' := [(2, .int r29), (0, .ref (ad 0)), (1, .int z1)]) C.1 C.2.1 dX12_atom_57 rfl hl (by decide) rfl (fun ls hl => ?_)
      replace hl := lv_sub (l' := [(0, .ref (ad 0)), (1, .int z1), (2, .int r29)]) hl [1, 2, 0] rfl
      refine lv_aload_n C.1 C.2.1 dX12_atom_58 rfl (lv_at hl 0 rfl) ?_
      refine lv_bipush (v := 93) C.1 C.2.1 dX12_atom_59 (by decide) ?_
      obtain ⟨⟨r32, u33⟩, hc34, h⟩ := bd_some h
      try dsimp only at h
      refine cg_i (As := [.int 93]) (rest := []) (AM_ge hJ) C hK hP hS (metX12_takes_0 l D cy ad st hJ _ 93 hc34) (cwV 1 C.2.2.2.2.2.1 gX12_atom_X12_takes rfl rfl rfl (by decide +kernel) ⟨(Nat.le_trans (m := 4) (Nat.le_of_ble_eq_true rfl) (rmX12sumg_f _)), (Nat.le_trans (m := 91) (Nat.le_of_ble_eq_true rfl) (rmX12sumg_l _))⟩) 0 12 rfl rfl rfl hl.1 rfl (Nat.le_of_ble_eq_true rfl) dX12_atom_61 ⟨Nat.zero_le _, Nat.zero_le _⟩ (fun H locs hP hS => ?_)
      refine lv_if_ne (tgt := 69) C.1 C.2.1 dX12_atom_64 (by decide) (fun c64 => ?_) (fun c64 => ?_)
      · rw [if_neg c64] at h
        refine lv_aload_n C.1 C.2.1 dX12_atom_69 rfl (lv_at hl 0 rfl) ?_
        refine lv_dup C.1 C.2.1 dX12_atom_70 rfl ?_
        refine gM_0_deep C hX12_atom_0_X12 hK hP mX12_atom_0_5 dX12_atom_71 ?_
        refine lv_iconst (v := 1) C.1 C.2.1 dX12_atom_74 (by decide) ?_
        refine lv_isub C.1 C.2.1 dX12_atom_75 ?_
        refine pM_0_deep C hX12_atom_0_X12 hK hP hJ hS mX12_atom_0_5 dX12_atom_76 (fun H locs hP hS => ?_)
        obtain ⟨u35, hu36, h⟩ := lt_some h
        rw [← hu36] at hP
        refine lv_iload_n C.1 C.2.1 dX12_atom_79 rfl (lv_at hl 2 rfl) ?_
        cases h
        exact rt_i C hP hS dX12_atom_80
      · rw [if_pos c64] at h
        refine lv_iconst (v := 0) C.1 C.2.1 dX12_atom_67 (by decide) ?_
        cases h
        exact rt_i C hP hS dX12_atom_68
    · rw [if_pos c48] at h
      refine lv_iconst (v := 0) C.1 C.2.1 dX12_atom_51 (by decide) ?_
      cases h
      exact rt_i C hP hS dX12_atom_52
set_option maxHeartbeats 4000000 in
set_option maxRecDepth 100000 in
theorem wX12_atom_0 {p : Program} {l : Launch} {e : Env} {s : State} {m : MethodId} {args : Array Value} {below : List Frame} {meth : Method} {c : Code} {D : va_G} {cy : Nat → ClassId} {ad st : Nat → Nat} (C : Cx RX12 cX12_atom 4 (some .int) wsX12_atom p s m args meth c) (hK : Ky D [(cy 0, .int), (cy 1, .long), (cy 2, .boolean), (cy 3, .byte), (cy 4, .object "HissHorn$Text")] st s) (hJ : JM ad st) {rc : Nat → Int32 → SX → Option (Int32 × SX)} {dd : Nat} (hrc : hRX12sumg l D cy ad st rc dd)  {u : SX} {r : Int32} {u' : SX} {H : Heap} {locs : List Loc} {ls : Array Slot} (h : fX12_atom_0 rc  u = some (r, u')) (hP : va_P D vwCl (VM cy ad st u) H) (hS : va_S (Ax (AM ad) s.heap.size) s.heap H locs) (hl : lv_has ls 4 [(0, .ref (ad 0))]) : W p l e (rmX12sumg (dd + 1)) s m args below meth c H locs 0 0 (MQ below (Qi D (VM cy ad st) (AM ad) s.heap.size r u') args s 0 0 (Ax (AM ad) s.heap.size)) (F0 m 0 ls []) := by
  unfold fX12_atom_0 at h
  refine lv_aload_n C.1 C.2.1 dX12_atom_0 rfl (lv_at hl 0 rfl) ?_
  obtain ⟨⟨r1, u2⟩, hc3, h⟩ := bd_some h
  try dsimp only at h
  refine cg_i (As := []) (rest := []) (AM_ge hJ) C hK hP hS (metX12_look_0 l D cy ad st hJ _  hc3) (cwV 0 C.2.2.2.2.2.1 gX12_atom_X12_look rfl rfl rfl (by decide +kernel) ⟨(Nat.le_trans (m := 4) (Nat.le_of_ble_eq_true rfl) (rmX12sumg_f _)), (Nat.le_trans (m := 91) (Nat.le_of_ble_eq_true rfl) (rmX12sumg_l _))⟩) 0 12 rfl rfl rfl hl.1 rfl (Nat.le_of_ble_eq_true rfl) dX12_atom_1 ⟨Nat.zero_le _, Nat.zero_le _⟩ (fun H locs hP hS => ?_)
  refine lv_istore_n (lv' := [(1, .int r1), (0, .ref (ad 0))]) C.1 C.2.1 dX12_atom_4 rfl hl (by decide) rfl (fun ls hl => ?_)
  replace hl := lv_sub (l' := [(0, .ref (ad 0)), (1, .int r1)]) hl [1, 0] rfl
  refine lv_iload_n C.1 C.2.1 dX12_atom_5 rfl (lv_at hl 1 rfl) ?_
  refine lv_iconst (v := (-1)) C.1 C.2.1 dX12_atom_6 (by decide) ?_
  refine lv_icmp_eq (tgt := 38) C.1 C.2.1 dX12_atom_7 (by decide) (fun c7 => ?_) (fun c7 => ?_)
  · rw [if_pos c7] at h
    exact wGX12_atom_0_38 C hK hJ hrc _ _ _ _ _ h hP hS hl
  · rw [if_neg c7] at h
    refine lv_aload_n C.1 C.2.1 dX12_atom_10 rfl (lv_at hl 0 rfl) ?_
    refine gM_0_allowed C hX12_atom_0_X12 hK hP mX12_atom_0_6 dX12_atom_11 ?_
    by_cases c11_4 : u2.1 10 = 5
    · rw [if_pos c11_4] at h
      refine W.eq (g2 := F0 m 14 ls [.ref (st 4)]) (by rw [c11_4]; rfl) ?_
      refine lv_iload_n C.1 C.2.1 dX12_atom_14 rfl (lv_at hl 1 rfl) ?_
      obtain ⟨r37, hc39, h⟩ := bd_some h
      refine cz_i (kz := 4) (by decide) (As := [.int r1]) (rest := []) (AM_ge hJ) C hK hP hS (metJ0_indexOf_0f7a4_s4 l D cy st _ r1 hc39) (cwV 1 C.2.2.2.2.2.1 gX12_atom_J0_indexOf_0f7a4 rfl rfl rfl (by decide +kernel) ⟨(Nat.le_trans (m := 4) (Nat.le_of_ble_eq_true rfl) (rmX12sumg_f _)), (Nat.le_trans (m := 91) (Nat.le_of_ble_eq_true rfl) (rmX12sumg_l _))⟩) rfl hl.1 rfl (Nat.le_of_ble_eq_true rfl) dX12_atom_15 ⟨Nat.zero_le _, Nat.zero_le _⟩ (fun H locs hP hS => ?_)
      refine lv_if_lt (tgt := 38) C.1 C.2.1 dX12_atom_18 (by decide) (fun c18 => ?_) (fun c18 => ?_)
      · rw [if_pos c18] at h
        exact wGX12_atom_0_38 C hK hJ hrc _ _ _ _ _ h hP hS hl
      · rw [if_neg c18] at h
        refine lv_aload_n C.1 C.2.1 dX12_atom_21 rfl (lv_at hl 0 rfl) ?_
        refine lv_dup C.1 C.2.1 dX12_atom_22 rfl ?_
        refine gM_0_at C hX12_atom_0_X12 hK hP mX12_atom_0_4 dX12_atom_23 ?_
        refine lv_iconst (v := 1) C.1 C.2.1 dX12_atom_26 (by decide) ?_
        refine lv_iadd C.1 C.2.1 dX12_atom_27 ?_
        refine pM_0_at C hX12_atom_0_X12 hK hP hJ hS mX12_atom_0_4 dX12_atom_28 (fun H locs hP hS => ?_)
        obtain ⟨u40, hu41, h⟩ := lt_some h
        rw [← hu41] at hP
        refine lv_aload_n C.1 C.2.1 dX12_atom_31 rfl (lv_at hl 0 rfl) ?_
        refine gM_0_letters C hX12_atom_0_X12 hK hP mX12_atom_0_7 dX12_atom_32 ?_
        refine lv_iload_n C.1 C.2.1 dX12_atom_35 rfl (lv_at hl 1 rfl) ?_
        obtain ⟨hg42, h⟩ := gd_some h
        refine lM_5 C hK hP hg42 dX12_atom_36 ?_
        cases h
        exact rt_i C hP hS dX12_atom_37
    · rw [if_neg c11_4] at h
      by_cases c11_5 : u2.1 10 = 6
      · rw [if_pos c11_5] at h
        refine W.eq (g2 := F0 m 14 ls [.ref (st 5)]) (by rw [c11_5]; rfl) ?_
        refine lv_iload_n C.1 C.2.1 dX12_atom_14 rfl (lv_at hl 1 rfl) ?_
        obtain ⟨r43, hc45, h⟩ := bd_some h
        refine cz_i (kz := 5) (by decide) (As := [.int r1]) (rest := []) (AM_ge hJ) C hK hP hS (metJ0_indexOf_0f7a4_s5 l D cy st _ r1 hc45) (cwV 1 C.2.2.2.2.2.1 gX12_atom_J0_indexOf_0f7a4 rfl rfl rfl (by decide +kernel) ⟨(Nat.le_trans (m := 4) (Nat.le_of_ble_eq_true rfl) (rmX12sumg_f _)), (Nat.le_trans (m := 91) (Nat.le_of_ble_eq_true rfl) (rmX12sumg_l _))⟩) rfl hl.1 rfl (Nat.le_of_ble_eq_true rfl) dX12_atom_15 ⟨Nat.zero_le _, Nat.zero_le _⟩ (fun H locs hP hS => ?_)
        refine lv_if_lt (tgt := 38) C.1 C.2.1 dX12_atom_18 (by decide) (fun c18 => ?_) (fun c18 => ?_)
        · rw [if_pos c18] at h
          exact wGX12_atom_0_38 C hK hJ hrc _ _ _ _ _ h hP hS hl
        · rw [if_neg c18] at h
          refine lv_aload_n C.1 C.2.1 dX12_atom_21 rfl (lv_at hl 0 rfl) ?_
          refine lv_dup C.1 C.2.1 dX12_atom_22 rfl ?_
          refine gM_0_at C hX12_atom_0_X12 hK hP mX12_atom_0_4 dX12_atom_23 ?_
          refine lv_iconst (v := 1) C.1 C.2.1 dX12_atom_26 (by decide) ?_
          refine lv_iadd C.1 C.2.1 dX12_atom_27 ?_
          refine pM_0_at C hX12_atom_0_X12 hK hP hJ hS mX12_atom_0_4 dX12_atom_28 (fun H locs hP hS => ?_)
          obtain ⟨u46, hu47, h⟩ := lt_some h
          rw [← hu47] at hP
          refine lv_aload_n C.1 C.2.1 dX12_atom_31 rfl (lv_at hl 0 rfl) ?_
          refine gM_0_letters C hX12_atom_0_X12 hK hP mX12_atom_0_7 dX12_atom_32 ?_
          refine lv_iload_n C.1 C.2.1 dX12_atom_35 rfl (lv_at hl 1 rfl) ?_
          obtain ⟨hg48, h⟩ := gd_some h
          refine lM_5 C hK hP hg48 dX12_atom_36 ?_
          cases h
          exact rt_i C hP hS dX12_atom_37
      · rw [if_neg c11_5] at h
        by_cases c11_6 : u2.1 10 = 7
        · rw [if_pos c11_6] at h
          refine W.eq (g2 := F0 m 14 ls [.ref (st 6)]) (by rw [c11_6]; rfl) ?_
          refine lv_iload_n C.1 C.2.1 dX12_atom_14 rfl (lv_at hl 1 rfl) ?_
          obtain ⟨r49, hc51, h⟩ := bd_some h
          refine cz_i (kz := 6) (by decide) (As := [.int r1]) (rest := []) (AM_ge hJ) C hK hP hS (metJ0_indexOf_0f7a4_s6 l D cy st _ r1 hc51) (cwV 1 C.2.2.2.2.2.1 gX12_atom_J0_indexOf_0f7a4 rfl rfl rfl (by decide +kernel) ⟨(Nat.le_trans (m := 4) (Nat.le_of_ble_eq_true rfl) (rmX12sumg_f _)), (Nat.le_trans (m := 91) (Nat.le_of_ble_eq_true rfl) (rmX12sumg_l _))⟩) rfl hl.1 rfl (Nat.le_of_ble_eq_true rfl) dX12_atom_15 ⟨Nat.zero_le _, Nat.zero_le _⟩ (fun H locs hP hS => ?_)
          refine lv_if_lt (tgt := 38) C.1 C.2.1 dX12_atom_18 (by decide) (fun c18 => ?_) (fun c18 => ?_)
          · rw [if_pos c18] at h
            exact wGX12_atom_0_38 C hK hJ hrc _ _ _ _ _ h hP hS hl
          · rw [if_neg c18] at h
            refine lv_aload_n C.1 C.2.1 dX12_atom_21 rfl (lv_at hl 0 rfl) ?_
            refine lv_dup C.1 C.2.1 dX12_atom_22 rfl ?_
            refine gM_0_at C hX12_atom_0_X12 hK hP mX12_atom_0_4 dX12_atom_23 ?_
            refine lv_iconst (v := 1) C.1 C.2.1 dX12_atom_26 (by decide) ?_
            refine lv_iadd C.1 C.2.1 dX12_atom_27 ?_
            refine pM_0_at C hX12_atom_0_X12 hK hP hJ hS mX12_atom_0_4 dX12_atom_28 (fun H locs hP hS => ?_)
            obtain ⟨u52, hu53, h⟩ := lt_some h
            rw [← hu53] at hP
            refine lv_aload_n C.1 C.2.1 dX12_atom_31 rfl (lv_at hl 0 rfl) ?_
            refine gM_0_letters C hX12_atom_0_X12 hK hP mX12_atom_0_7 dX12_atom_32 ?_
            refine lv_iload_n C.1 C.2.1 dX12_atom_35 rfl (lv_at hl 1 rfl) ?_
            obtain ⟨hg54, h⟩ := gd_some h
            refine lM_5 C hK hP hg54 dX12_atom_36 ?_
            cases h
            exact rt_i C hP hS dX12_atom_37
        · rw [if_neg c11_6] at h
          exact absurd h (by intro q; cases q)
theorem metX12_atom_0 (l : Launch) (D : va_G) (cy : Nat → ClassId) (ad st : Nat → Nat) (hJ : JM ad st) {rc : Nat → Int32 → SX → Option (Int32 × SX)} {dd : Nat} (hrc : hRX12sumg l D cy ad st rc dd) (sz : Nat)  {u : SX} {r : Int32} {u' : SX} (h : fX12_atom_0 rc  u = some (r, u')) : Met l yX12_atom wsX12_atom (rmX12sumg (dd + 1)) (va_Pc [.ref (ad 0)] (Px D [(cy 0, .int), (cy 1, .long), (cy 2, .boolean), (cy 3, .byte), (cy 4, .object "HissHorn$Text")] st (VM cy ad st) sz u)) (Qi D (VM cy ad st) (AM ad) sz r u') 0 0 (Ax (AM ad) sz) := by
  refine Met.ofW (cc := cX12_atom) (maxL := 4) (ret := (some .int)) (by decide) rfl ?_
  intro p e s m args below meth c s₁ B hml hv
  obtain ⟨rfl, hsz, hP, hK⟩ := hv
  subst hsz
  have C : Cx RX12 cX12_atom 4 (some .int) wsX12_atom p s m _ meth c := ⟨B.exec, B.bytes, hml, B.returns, findClass_of_methodNamed B.named, atoms_spec (ws := wsX12_atom) B.pre, B.notSynchronized⟩
  have hl := lv_entry ([.ref (ad 0)]) (n := 4) (Nat.le_of_ble_eq_true rfl)
  rw [lg_entry_eq]
  exact wX12_atom_0 C hK hJ hrc h hP va_S.rf hl

def rX12sumg : Nat → Nat → Int32 → SX → Option (Int32 × SX)
  | 0, _, _, _ => none
  | d + 1, t, a0, u => (if t = 0 then fX12_sum_0 (rX12sumg d)  u else (if t = 1 then fX12_term_0 (rX12sumg d)  u else (if t = 2 then fX12_atom_0 (rX12sumg d)  u else none)))
theorem hRX12sumg_all (l : Launch) (D : va_G) (cy : Nat → ClassId) (ad st : Nat → Nat) (hJ : JM ad st) : ∀ d, hRX12sumg l D cy ad st (rX12sumg d) d := by
  intro d
  induction d with
  | zero =>
    refine ⟨?_, ?_, ?_⟩
    · intro sz  u r u' h
      exact absurd h (by intro q; cases q)
    · intro sz  u r u' h
      exact absurd h (by intro q; cases q)
    · intro sz  u r u' h
      exact absurd h (by intro q; cases q)
  | succ d ih =>
    refine ⟨?_, ?_, ?_⟩
    · intro sz  u r u' h
      rw [rX12sumg] at h
      rw [if_pos rfl] at h
      exact metX12_sum_0 l D cy ad st hJ ih sz  h
    · intro sz  u r u' h
      rw [rX12sumg] at h
      rw [if_neg (by decide)] at h; rw [if_pos rfl] at h
      exact metX12_term_0 l D cy ad st hJ ih sz  h
    · intro sz  u r u' h
      rw [rX12sumg] at h
      rw [if_neg (by decide)] at h; rw [if_neg (by decide)] at h; rw [if_pos rfl] at h
      exact metX12_atom_0 l D cy ad st hJ ih sz  h

theorem zdX12_compares_12 : (and (and (and (and (and (zk cX12_compares 12 (.istore_n 3) 1) (zk cX12_compares 13 (.aload_n 0) 1)) (and (zk cX12_compares 14 (.getfield 182) 3) (zk cX12_compares 17 (.iconst (-1)) 1))) (and (and (zk cX12_compares 18 (.if_icmp .eq 5) 3) (zk cX12_compares 23 (.aload_n 0) 1)) (and (zk cX12_compares 24 (.invokevirtual 192) 3) (zk cX12_compares 27 (.istore 4) 2)))) (and (and (and (zk cX12_compares 29 (.iload 4) 2) (zk cX12_compares 31 (.invokestatic 237) 3)) (and (zk cX12_compares 34 (.ifCond .ne 8) 3) (zk cX12_compares 42 (.aload_n 0) 1))) (and (and (zk cX12_compares 43 (.dup) 1) (zk cX12_compares 44 (.getfield 173) 3)) (and (zk cX12_compares 47 (.iconst 1) 1) (zk cX12_compares 48 (.iadd) 1))))) (and (and (and (and (zk cX12_compares 49 (.putfield 173) 3) (zk cX12_compares 52 (.aload_n 0) 1)) (and (zk cX12_compares 53 (.invokevirtual 217) 3) (zk cX12_compares 56 (.istore 5) 2))) (and (and (zk cX12_compares 58 (.iload 4) 2) (zk cX12_compares 60 (.bipush 61) 2)) (and (zk cX12_compares 62 (.if_icmp .ne 17) 3) (zk cX12_compares 79 (.iload 4) 2)))) (and (and (and (zk cX12_compares 81 (.bipush 60) 2) (zk cX12_compares 83 (.if_icmp .ne 17) 3)) (and (zk cX12_compares 100 (.iload_n 3) 1) (zk cX12_compares 101 (.iload 5) 2))) (and (and (zk cX12_compares 103 (.if_icmp .le 7) 3) (zk cX12_compares 110 (.iconst 0) 1)) (and (zk cX12_compares 111 (.ireturn) 1) (zk cX12_compares 106 (.iconst 1) 1)))))) = true := by decide +kernel
theorem dX12_compares_12 : decode cX12_compares 12 = .ok (.istore_n 3, 1) := zk_of (zk_l (zk_l (zk_l (zk_l (zk_l zdX12_compares_12)))))
theorem dX12_compares_13 : decode cX12_compares 13 = .ok (.aload_n 0, 1) := zk_of (zk_r (zk_l (zk_l (zk_l (zk_l zdX12_compares_12)))))
theorem dX12_compares_14 : decode cX12_compares 14 = .ok (.getfield 182, 3) := zk_of (zk_l (zk_r (zk_l (zk_l (zk_l zdX12_compares_12)))))
theorem dX12_compares_17 : decode cX12_compares 17 = .ok (.iconst (-1), 1) := zk_of (zk_r (zk_r (zk_l (zk_l (zk_l zdX12_compares_12)))))
theorem dX12_compares_18 : decode cX12_compares 18 = .ok (.if_icmp .eq 5, 3) := zk_of (zk_l (zk_l (zk_r (zk_l (zk_l zdX12_compares_12)))))
theorem dX12_compares_23 : decode cX12_compares 23 = .ok (.aload_n 0, 1) := zk_of (zk_r (zk_l (zk_r (zk_l (zk_l zdX12_compares_12)))))
theorem dX12_compares_24 : decode cX12_compares 24 = .ok (.invokevirtual 192, 3) := zk_of (zk_l (zk_r (zk_r (zk_l (zk_l zdX12_compares_12)))))
theorem dX12_compares_27 : decode cX12_compares 27 = .ok (.istore 4, 2) := zk_of (zk_r (zk_r (zk_r (zk_l (zk_l zdX12_compares_12)))))
theorem dX12_compares_29 : decode cX12_compares 29 = .ok (.iload 4, 2) := zk_of (zk_l (zk_l (zk_l (zk_r (zk_l zdX12_compares_12)))))
theorem dX12_compares_31 : decode cX12_compares 31 = .ok (.invokestatic 237, 3) := zk_of (zk_r (zk_l (zk_l (zk_r (zk_l zdX12_compares_12)))))
theorem dX12_compares_34 : decode cX12_compares 34 = .ok (.ifCond .ne 8, 3) := zk_of (zk_l (zk_r (zk_l (zk_r (zk_l zdX12_compares_12)))))
theorem dX12_compares_42 : decode cX12_compares 42 = .ok (.aload_n 0, 1) := zk_of (zk_r (zk_r (zk_l (zk_r (zk_l zdX12_compares_12)))))
theorem dX12_compares_43 : decode cX12_compares 43 = .ok (.dup, 1) := zk_of (zk_l (zk_l (zk_r (zk_r (zk_l zdX12_compares_12)))))
theorem dX12_compares_44 : decode cX12_compares 44 = .ok (.getfield 173, 3) := zk_of (zk_r (zk_l (zk_r (zk_r (zk_l zdX12_compares_12)))))
theorem dX12_compares_47 : decode cX12_compares 47 = .ok (.iconst 1, 1) := zk_of (zk_l (zk_r (zk_r (zk_r (zk_l zdX12_compares_12)))))
theorem dX12_compares_48 : decode cX12_compares 48 = .ok (.iadd, 1) := zk_of (zk_r (zk_r (zk_r (zk_r (zk_l zdX12_compares_12)))))
theorem dX12_compares_49 : decode cX12_compares 49 = .ok (.putfield 173, 3) := zk_of (zk_l (zk_l (zk_l (zk_l (zk_r zdX12_compares_12)))))
theorem dX12_compares_52 : decode cX12_compares 52 = .ok (.aload_n 0, 1) := zk_of (zk_r (zk_l (zk_l (zk_l (zk_r zdX12_compares_12)))))
theorem dX12_compares_53 : decode cX12_compares 53 = .ok (.invokevirtual 217, 3) := zk_of (zk_l (zk_r (zk_l (zk_l (zk_r zdX12_compares_12)))))
theorem dX12_compares_56 : decode cX12_compares 56 = .ok (.istore 5, 2) := zk_of (zk_r (zk_r (zk_l (zk_l (zk_r zdX12_compares_12)))))
theorem dX12_compares_58 : decode cX12_compares 58 = .ok (.iload 4, 2) := zk_of (zk_l (zk_l (zk_r (zk_l (zk_r zdX12_compares_12)))))
theorem dX12_compares_60 : decode cX12_compares 60 = .ok (.bipush 61, 2) := zk_of (zk_r (zk_l (zk_r (zk_l (zk_r zdX12_compares_12)))))
theorem dX12_compares_62 : decode cX12_compares 62 = .ok (.if_icmp .ne 17, 3) := zk_of (zk_l (zk_r (zk_r (zk_l (zk_r zdX12_compares_12)))))
theorem dX12_compares_79 : decode cX12_compares 79 = .ok (.iload 4, 2) := zk_of (zk_r (zk_r (zk_r (zk_l (zk_r zdX12_compares_12)))))
theorem dX12_compares_81 : decode cX12_compares 81 = .ok (.bipush 60, 2) := zk_of (zk_l (zk_l (zk_l (zk_r (zk_r zdX12_compares_12)))))
theorem dX12_compares_83 : decode cX12_compares 83 = .ok (.if_icmp .ne 17, 3) := zk_of (zk_r (zk_l (zk_l (zk_r (zk_r zdX12_compares_12)))))
theorem dX12_compares_100 : decode cX12_compares 100 = .ok (.iload_n 3, 1) := zk_of (zk_l (zk_r (zk_l (zk_r (zk_r zdX12_compares_12)))))
theorem dX12_compares_101 : decode cX12_compares 101 = .ok (.iload 5, 2) := zk_of (zk_r (zk_r (zk_l (zk_r (zk_r zdX12_compares_12)))))
theorem dX12_compares_103 : decode cX12_compares 103 = .ok (.if_icmp .le 7, 3) := zk_of (zk_l (zk_l (zk_r (zk_r (zk_r zdX12_compares_12)))))
theorem dX12_compares_110 : decode cX12_compares 110 = .ok (.iconst 0, 1) := zk_of (zk_r (zk_l (zk_r (zk_r (zk_r zdX12_compares_12)))))
theorem dX12_compares_111 : decode cX12_compares 111 = .ok (.ireturn, 1) := zk_of (zk_l (zk_r (zk_r (zk_r (zk_r zdX12_compares_12)))))
theorem dX12_compares_106 : decode cX12_compares 106 = .ok (.iconst 1, 1) := zk_of (zk_r (zk_r (zk_r (zk_r (zk_r zdX12_compares_12)))))
set_option maxRecDepth 20000 in
theorem ggX12_compares_X12_look : GoodIn wsX12_compares wsX12_look := goodIn_r _ [14, 2, 15, 16, 17, 145, 146, 147, 148, 149, 150, 151, 152, 153, 154, 155, 156, 157, 158, 159, 160, 161, 162, 163, 164, 165, 166, 167, 168, 169, 170, 171, 172, 173, 174, 175, 176, 177, 178, 179, 180, 181, 182, 183, 184, 185, 186, 187, 188, 189, 190, 191, 192, 193, 194, 195, 196, 197, 198, 199, 200, 201, 202, 203, 204, 205, 206, 207, 208, 209, 210, 211, 212, 213] rfl (by decide +kernel)
set_option maxRecDepth 20000 in
theorem gX12_compares_X12_look : GoodIn wsX12_compares (wsV RX12 192 RX12 yX12_look wsX12_look) := goodIn_app (goodIn_of _ (by decide +kernel)) ggX12_compares_X12_look
set_option maxRecDepth 20000 in
theorem ggX12_compares_X12_isSign : GoodIn wsX12_compares wsX12_isSign := goodIn_r _ [144] rfl (by decide +kernel)
set_option maxRecDepth 20000 in
theorem gX12_compares_X12_isSign : GoodIn wsX12_compares (va_wsS RX12 237 yX12_isSign wsX12_isSign) := goodIn_app (goodIn_of _ (by decide +kernel)) ggX12_compares_X12_isSign
set_option maxRecDepth 20000 in
theorem ggX12_compares_X12_sum : GoodIn wsX12_compares wsX12_sum := goodIn_r _ [7, 1, 2, 8, 9, 10, 6, 11, 12, 13, 14, 15, 16, 17, 18, 19, 20, 21, 22, 23, 24, 25, 26, 27, 28, 29, 30, 31, 32, 33, 34, 35, 36, 37, 38, 39, 40, 41, 42, 43, 44, 45, 46, 47, 48, 49, 50, 51, 52, 53, 54, 55, 56, 57, 58, 59, 60, 61, 62, 63, 64, 65, 66, 67, 68, 69, 70, 71, 72, 73, 74, 75, 76, 77, 78, 79, 80, 81, 82, 83, 84, 85, 86, 87, 88, 89, 90, 91, 92, 93, 94, 95, 96, 97, 98, 99, 100, 101, 102, 103, 104, 105, 106, 107, 108, 109, 110, 111, 112, 113, 114, 115, 116, 117, 118, 119, 120, 121, 122, 123, 124, 125, 126, 127, 128, 129, 3, 4, 5, 130, 131, 132, 133, 134, 135, 136, 137, 138, 139, 140, 141, 145, 146, 147, 148, 149, 150, 151, 152, 153, 154, 155, 156, 157, 158, 159, 160, 161, 162, 163, 164, 165, 166, 167, 168, 169, 170, 171, 172, 173, 174, 175, 176, 177, 178, 179, 180, 181, 182, 183, 184, 185, 186, 187, 188, 189, 190, 191, 192, 193, 194, 195, 196, 197, 198, 199, 200, 201, 202, 203, 204, 205, 206, 207, 208, 209, 210, 211, 212, 213] rfl (by decide +kernel)
set_option maxRecDepth 20000 in
theorem gX12_compares_X12_sum : GoodIn wsX12_compares (wsV RX12 217 RX12 yX12_sum wsX12_sum) := goodIn_app (goodIn_of _ (by decide +kernel)) ggX12_compares_X12_sum
theorem zdX12_compares_107 : (and (and (and (and (and (zk cX12_compares 107 (.goto 4) 3) (zk cX12_compares 86 (.iload_n 3) 1)) (and (zk cX12_compares 87 (.iload 5) 2) (zk cX12_compares 89 (.if_icmp .ge 7) 3))) (and (and (zk cX12_compares 96 (.iconst 0) 1) (zk cX12_compares 97 (.goto 14) 3)) (zk cX12_compares 92 (.iconst 1) 1))) (and (and (and (zk cX12_compares 93 (.goto 18) 3) (zk cX12_compares 65 (.iload_n 3) 1)) (zk cX12_compares 66 (.iload 5) 2)) (and (and (zk cX12_compares 68 (.if_icmp .ne 7) 3) (zk cX12_compares 75 (.iconst 0) 1)) (zk cX12_compares 76 (.goto 35) 3)))) (and (and (and (and (zk cX12_compares 71 (.iconst 1) 1) (zk cX12_compares 72 (.goto 39) 3)) (and (zk cX12_compares 37 (.aload_n 0) 1) (zk cX12_compares 38 (.invokevirtual 188) 3))) (and (and (zk cX12_compares 41 (.ireturn) 1) (zk cX12_compares 21 (.iconst 0) 1)) (zk cX12_compares 22 (.ireturn) 1))) (and (and (and (zk cX12_compares 0 (.iload_n 1) 1) (zk cX12_compares 1 (.ifCond .eq 7) 3)) (zk cX12_compares 8 (.aload_n 0) 1)) (and (and (zk cX12_compares 9 (.invokevirtual 217) 3) (zk cX12_compares 4 (.iload_n 2) 1)) (zk cX12_compares 5 (.goto 7) 3))))) = true := by decide +kernel
theorem dX12_compares_107 : decode cX12_compares 107 = .ok (.goto 4, 3) := zk_of (zk_l (zk_l (zk_l (zk_l (zk_l zdX12_compares_107)))))
theorem dX12_compares_86 : decode cX12_compares 86 = .ok (.iload_n 3, 1) := zk_of (zk_r (zk_l (zk_l (zk_l (zk_l zdX12_compares_107)))))
theorem dX12_compares_87 : decode cX12_compares 87 = .ok (.iload 5, 2) := zk_of (zk_l (zk_r (zk_l (zk_l (zk_l zdX12_compares_107)))))
theorem dX12_compares_89 : decode cX12_compares 89 = .ok (.if_icmp .ge 7, 3) := zk_of (zk_r (zk_r (zk_l (zk_l (zk_l zdX12_compares_107)))))
theorem dX12_compares_96 : decode cX12_compares 96 = .ok (.iconst 0, 1) := zk_of (zk_l (zk_l (zk_r (zk_l (zk_l zdX12_compares_107)))))
theorem dX12_compares_97 : decode cX12_compares 97 = .ok (.goto 14, 3) := zk_of (zk_r (zk_l (zk_r (zk_l (zk_l zdX12_compares_107)))))
theorem dX12_compares_92 : decode cX12_compares 92 = .ok (.iconst 1, 1) := zk_of (zk_r (zk_r (zk_l (zk_l zdX12_compares_107))))
theorem dX12_compares_93 : decode cX12_compares 93 = .ok (.goto 18, 3) := zk_of (zk_l (zk_l (zk_l (zk_r (zk_l zdX12_compares_107)))))
theorem dX12_compares_65 : decode cX12_compares 65 = .ok (.iload_n 3, 1) := zk_of (zk_r (zk_l (zk_l (zk_r (zk_l zdX12_compares_107)))))
theorem dX12_compares_66 : decode cX12_compares 66 = .ok (.iload 5, 2) := zk_of (zk_r (zk_l (zk_r (zk_l zdX12_compares_107))))
theorem dX12_compares_68 : decode cX12_compares 68 = .ok (.if_icmp .ne 7, 3) := zk_of (zk_l (zk_l (zk_r (zk_r (zk_l zdX12_compares_107)))))
theorem dX12_compares_75 : decode cX12_compares 75 = .ok (.iconst 0, 1) := zk_of (zk_r (zk_l (zk_r (zk_r (zk_l zdX12_compares_107)))))
theorem dX12_compares_76 : decode cX12_compares 76 = .ok (.goto 35, 3) := zk_of (zk_r (zk_r (zk_r (zk_l zdX12_compares_107))))
theorem dX12_compares_71 : decode cX12_compares 71 = .ok (.iconst 1, 1) := zk_of (zk_l (zk_l (zk_l (zk_l (zk_r zdX12_compares_107)))))
theorem dX12_compares_72 : decode cX12_compares 72 = .ok (.goto 39, 3) := zk_of (zk_r (zk_l (zk_l (zk_l (zk_r zdX12_compares_107)))))
theorem dX12_compares_37 : decode cX12_compares 37 = .ok (.aload_n 0, 1) := zk_of (zk_l (zk_r (zk_l (zk_l (zk_r zdX12_compares_107)))))
theorem dX12_compares_38 : decode cX12_compares 38 = .ok (.invokevirtual 188, 3) := zk_of (zk_r (zk_r (zk_l (zk_l (zk_r zdX12_compares_107)))))
theorem dX12_compares_41 : decode cX12_compares 41 = .ok (.ireturn, 1) := zk_of (zk_l (zk_l (zk_r (zk_l (zk_r zdX12_compares_107)))))
theorem dX12_compares_21 : decode cX12_compares 21 = .ok (.iconst 0, 1) := zk_of (zk_r (zk_l (zk_r (zk_l (zk_r zdX12_compares_107)))))
theorem dX12_compares_22 : decode cX12_compares 22 = .ok (.ireturn, 1) := zk_of (zk_r (zk_r (zk_l (zk_r zdX12_compares_107))))
theorem dX12_compares_0 : decode cX12_compares 0 = .ok (.iload_n 1, 1) := zk_of (zk_l (zk_l (zk_l (zk_r (zk_r zdX12_compares_107)))))
theorem dX12_compares_1 : decode cX12_compares 1 = .ok (.ifCond .eq 7, 3) := zk_of (zk_r (zk_l (zk_l (zk_r (zk_r zdX12_compares_107)))))
theorem dX12_compares_8 : decode cX12_compares 8 = .ok (.aload_n 0, 1) := zk_of (zk_r (zk_l (zk_r (zk_r zdX12_compares_107))))
theorem dX12_compares_9 : decode cX12_compares 9 = .ok (.invokevirtual 217, 3) := zk_of (zk_l (zk_l (zk_r (zk_r (zk_r zdX12_compares_107)))))
theorem dX12_compares_4 : decode cX12_compares 4 = .ok (.iload_n 2, 1) := zk_of (zk_r (zk_l (zk_r (zk_r (zk_r zdX12_compares_107)))))
theorem dX12_compares_5 : decode cX12_compares 5 = .ok (.goto 7, 3) := zk_of (zk_r (zk_r (zk_r (zk_r zdX12_compares_107))))
set_option maxRecDepth 20000 in
theorem ggX12_compares_X12_fails : GoodIn wsX12_compares wsX12_fails := goodIn_r _ [129, 1, 2, 145, 146, 147, 148, 149, 150, 151, 152, 153, 154, 155, 156, 157, 158, 159, 160, 161, 162, 163, 164, 165, 166, 167, 168, 169, 170, 171, 172, 173, 174, 175, 176, 177, 178, 179, 180, 181, 182, 183, 184, 185, 186, 187, 188, 189, 190, 191, 192, 193, 194, 195, 196, 197, 198, 199, 200, 201, 202, 203, 204, 205, 206, 207, 208, 209, 210, 211, 212, 213] rfl (by decide +kernel)
set_option maxRecDepth 20000 in
theorem gX12_compares_X12_fails : GoodIn wsX12_compares (wsV RX12 188 RX12 yX12_fails wsX12_fails) := goodIn_app (goodIn_of _ (by decide +kernel)) ggX12_compares_X12_fails
/-- HissHornModel.compares(ZI)Z of cell 0 -/
def rmX12_compares_0 : Room := { frames := 69, cells := 0, slots := 0, locals := 4211 }
theorem hX12_compares_0_X12 : ∀ w ∈ u_ws RX12 TX12 69, w ∈ wsX12_compares := fun w h => (List.mem_cons_of_mem _ (List.mem_append_right _ h))
theorem mX12_compares_0_1 : Cond.fieldLink RX12 182 "HissHornModel" "fault" "I" ∈ wsX12_compares := (List.mem_cons_of_mem _ (List.mem_append_left _ (List.mem_append_left _ (List.mem_of_getElem? (i := 0) rfl))))
theorem mX12_compares_0_2 : Cond.fieldLink RX12 173 "HissHornModel" "at" "I" ∈ wsX12_compares := (List.mem_cons_of_mem _ (List.mem_append_left _ (List.mem_append_left _ (List.mem_of_getElem? (i := 1) rfl))))
def GX12_compares_0_12 (y0 : Int32) (u : SX) : Option (Int32 × SX) := (if (u.1 7) = (-1) then ((fX12_look_0  u).bind fun q => match q with | (r4, u5) => ((fX12_isSign r4).bind fun r7 => (if r7 = 0 then ((fX12_fails_0  u5).bind fun q => match q with | (r21, u22) => (gd (isB r21) (some (r21, u22)))) else (lt (sI u5 6 ((u5.1 6) + 1)) fun u10 => ((rX12sumg 64 0  0 u10).bind fun q => match q with | (r12, u13) => (if r4 = 61 then (if y0 = r12 then (gd (isB 1) (some (1, u13))) else (gd (isB 0) (some (0, u13)))) else (if r4 = 60 then (if r12 ≤ y0 then (gd (isB 0) (some (0, u13))) else (gd (isB 1) (some (1, u13)))) else (if y0 ≤ r12 then (gd (isB 0) (some (0, u13))) else (gd (isB 1) (some (1, u13))))))))))) else (gd (isB 0) (some (0, u))))
def fX12_compares_0 (x1 : Int32) (x2 : Int32) (u : SX) : Option (Int32 × SX) := (if x1 = 0 then ((rX12sumg 64 0  0 u).bind fun q => match q with | (r1, u2) => (GX12_compares_0_12 r1 u2)) else (GX12_compares_0_12 x2 u))
set_option maxHeartbeats 4000000 in
set_option maxRecDepth 100000 in
theorem wGX12_compares_0_12 {p : Program} {l : Launch} {e : Env} {s : State} {m : MethodId} {args : Array Value} {below : List Frame} {meth : Method} {c : Code} {D : va_G} {cy : Nat → ClassId} {ad st : Nat → Nat} (C : Cx RX12 cX12_compares 6 (some .boolean) wsX12_compares p s m args meth c) (hK : Ky D [(cy 0, .int), (cy 1, .long), (cy 2, .boolean), (cy 3, .byte), (cy 4, .object "HissHorn$Text")] st s) (hJ : JM ad st) {r : Int32} {u' : SX}   (y0 : Int32) (u : SX) (H : Heap) (locs : List Loc) (ls : Array Slot) (h : GX12_compares_0_12 y0 u = some (r, u')) (hP : va_P D vwCl (VM cy ad st u) H) (hS : va_S (Ax (AM ad) s.heap.size) s.heap H locs) (hl : lv_has ls 6 [(0, .ref (ad 0))]) : W p l e rmX12_compares_0 s m args below meth c H locs 0 0 (MQ below (Qi D (VM cy ad st) (AM ad) s.heap.size r u') args s 0 0 (Ax (AM ad) s.heap.size)) (F0 m 12 ls [.int y0]) := by
  unfold GX12_compares_0_12 at h
  refine lv_istore_n (lv' := [(3, .int y0), (0, .ref (ad 0))]) C.1 C.2.1 dX12_compares_12 rfl hl (by decide) rfl (fun ls hl => ?_)
  replace hl := lv_sub (l' := [(0, .ref (ad 0)), (3, .int y0)]) hl [1, 0] rfl
  refine lv_aload_n C.1 C.2.1 dX12_compares_13 rfl (lv_at hl 0 rfl) ?_
  refine gM_0_fault C hX12_compares_0_X12 hK hP mX12_compares_0_1 dX12_compares_14 ?_
  refine lv_iconst (v := (-1)) C.1 C.2.1 dX12_compares_17 (by decide) ?_
  refine lv_icmp_eq (tgt := 23) C.1 C.2.1 dX12_compares_18 (by decide) (fun c18 => ?_) (fun c18 => ?_)
  · rw [if_pos c18] at h
    refine lv_aload_n C.1 C.2.1 dX12_compares_23 rfl (lv_at hl 0 rfl) ?_
    obtain ⟨⟨r4, u5⟩, hc6, h⟩ := bd_some h
    try dsimp only at h
    refine cg_i (As := []) (rest := []) (AM_ge hJ) C hK hP hS (metX12_look_0 l D cy ad st hJ _  hc6) (cwV 0 C.2.2.2.2.2.1 gX12_compares_X12_look rfl rfl rfl (by decide +kernel) ⟨(Nat.le_of_ble_eq_true rfl), (Nat.le_of_ble_eq_true rfl)⟩) 0 12 rfl rfl rfl hl.1 rfl (Nat.le_of_ble_eq_true rfl) dX12_compares_24 ⟨Nat.zero_le _, Nat.zero_le _⟩ (fun H locs hP hS => ?_)
    refine lv_istore (lv' := [(4, .int r4), (0, .ref (ad 0)), (3, .int y0)]) C.1 C.2.1 dX12_compares_27 hl (by decide) rfl (fun ls hl => ?_)
    replace hl := lv_sub (l' := [(0, .ref (ad 0)), (3, .int y0), (4, .int r4)]) hl [1, 2, 0] rfl
    refine lv_iload C.1 C.2.1 dX12_compares_29 (lv_at hl 2 rfl) ?_
    obtain ⟨r7, hc9, h⟩ := bd_some h
    refine cs_i (As := [.int r4]) (rest := []) (AM_ge hJ) C hK hP hS (metX12_isSign l D cy st _ r4 hc9) (va_cwS 1 C.2.2.2.2.2.1 gX12_compares_X12_isSign rfl rfl rfl (by decide +kernel) ⟨(Nat.le_of_ble_eq_true rfl), (Nat.le_of_ble_eq_true rfl)⟩) rfl hl.1 rfl (Nat.le_of_ble_eq_true rfl) dX12_compares_31 ⟨Nat.zero_le _, Nat.zero_le _⟩ (fun H locs hP hS => ?_)
    refine lv_if_ne (tgt := 42) C.1 C.2.1 dX12_compares_34 (by decide) (fun c34 => ?_) (fun c34 => ?_)
    · rw [if_neg c34] at h
      refine lv_aload_n C.1 C.2.1 dX12_compares_42 rfl (lv_at hl 0 rfl) ?_
      refine lv_dup C.1 C.2.1 dX12_compares_43 rfl ?_
      refine gM_0_at C hX12_compares_0_X12 hK hP mX12_compares_0_2 dX12_compares_44 ?_
      refine lv_iconst (v := 1) C.1 C.2.1 dX12_compares_47 (by decide) ?_
      refine lv_iadd C.1 C.2.1 dX12_compares_48 ?_
      refine pM_0_at C hX12_compares_0_X12 hK hP hJ hS mX12_compares_0_2 dX12_compares_49 (fun H locs hP hS => ?_)
      obtain ⟨u10, hu11, h⟩ := lt_some h
      rw [← hu11] at hP
      refine lv_aload_n C.1 C.2.1 dX12_compares_52 rfl (lv_at hl 0 rfl) ?_
      obtain ⟨⟨r12, u13⟩, hc14, h⟩ := bd_some h
      try dsimp only at h
      refine cg_i (As := []) (rest := []) (AM_ge hJ) C hK hP hS ((hRX12sumg_all l D cy ad st hJ 64).1 _  _ _ _ hc14) (cwV 0 C.2.2.2.2.2.1 gX12_compares_X12_sum rfl rfl rfl (by decide +kernel) ⟨(Nat.le_of_ble_eq_true rfl), (Nat.le_of_ble_eq_true rfl)⟩) 0 12 rfl rfl rfl hl.1 rfl (Nat.le_of_ble_eq_true rfl) dX12_compares_53 ⟨Nat.zero_le _, Nat.zero_le _⟩ (fun H locs hP hS => ?_)
      refine lv_istore (lv' := [(5, .int r12), (0, .ref (ad 0)), (3, .int y0), (4, .int r4)]) C.1 C.2.1 dX12_compares_56 hl (by decide) rfl (fun ls hl => ?_)
      replace hl := lv_sub (l' := [(0, .ref (ad 0)), (3, .int y0), (4, .int r4), (5, .int r12)]) hl [1, 2, 3, 0] rfl
      refine lv_iload C.1 C.2.1 dX12_compares_58 (lv_at hl 2 rfl) ?_
      refine lv_bipush (v := 61) C.1 C.2.1 dX12_compares_60 (by decide) ?_
      refine lv_icmp_ne (tgt := 79) C.1 C.2.1 dX12_compares_62 (by decide) (fun c62 => ?_) (fun c62 => ?_)
      · rw [if_neg c62] at h
        refine lv_iload C.1 C.2.1 dX12_compares_79 (lv_at hl 2 rfl) ?_
        refine lv_bipush (v := 60) C.1 C.2.1 dX12_compares_81 (by decide) ?_
        refine lv_icmp_ne (tgt := 100) C.1 C.2.1 dX12_compares_83 (by decide) (fun c83 => ?_) (fun c83 => ?_)
        · rw [if_neg c83] at h
          refine lv_iload_n C.1 C.2.1 dX12_compares_100 rfl (lv_at hl 1 rfl) ?_
          refine lv_iload C.1 C.2.1 dX12_compares_101 (lv_at hl 3 rfl) ?_
          refine lv_icmp_le (tgt := 110) C.1 C.2.1 dX12_compares_103 (by decide) (fun c103 => ?_) (fun c103 => ?_)
          · rw [if_pos c103] at h
            refine lv_iconst (v := 0) C.1 C.2.1 dX12_compares_110 (by decide) ?_
            obtain ⟨hg15, h⟩ := gd_some h
            cases h
            exact rt_z hg15 C hP hS dX12_compares_111
          · rw [if_neg c103] at h
            refine lv_iconst (v := 1) C.1 C.2.1 dX12_compares_106 (by decide) ?_
            refine lv_goto (tgt := 111) C.1 C.2.1 dX12_compares_107 (by decide) ?_
            obtain ⟨hg16, h⟩ := gd_some h
            cases h
            exact rt_z hg16 C hP hS dX12_compares_111
        · rw [if_pos c83] at h
          refine lv_iload_n C.1 C.2.1 dX12_compares_86 rfl (lv_at hl 1 rfl) ?_
          refine lv_iload C.1 C.2.1 dX12_compares_87 (lv_at hl 3 rfl) ?_
          refine lv_icmp_ge (tgt := 96) C.1 C.2.1 dX12_compares_89 (by decide) (fun c89 => ?_) (fun c89 => ?_)
          · rw [if_pos c89] at h
            refine lv_iconst (v := 0) C.1 C.2.1 dX12_compares_96 (by decide) ?_
            refine lv_goto (tgt := 111) C.1 C.2.1 dX12_compares_97 (by decide) ?_
            obtain ⟨hg17, h⟩ := gd_some h
            cases h
            exact rt_z hg17 C hP hS dX12_compares_111
          · rw [if_neg c89] at h
            refine lv_iconst (v := 1) C.1 C.2.1 dX12_compares_92 (by decide) ?_
            refine lv_goto (tgt := 111) C.1 C.2.1 dX12_compares_93 (by decide) ?_
            obtain ⟨hg18, h⟩ := gd_some h
            cases h
            exact rt_z hg18 C hP hS dX12_compares_111
      · rw [if_pos c62] at h
        refine lv_iload_n C.1 C.2.1 dX12_compares_65 rfl (lv_at hl 1 rfl) ?_
        refine lv_iload C.1 C.2.1 dX12_compares_66 (lv_at hl 3 rfl) ?_
        refine lv_icmp_ne (tgt := 75) C.1 C.2.1 dX12_compares_68 (by decide) (fun c68 => ?_) (fun c68 => ?_)
        · rw [if_neg c68] at h
          refine lv_iconst (v := 0) C.1 C.2.1 dX12_compares_75 (by decide) ?_
          refine lv_goto (tgt := 111) C.1 C.2.1 dX12_compares_76 (by decide) ?_
          obtain ⟨hg19, h⟩ := gd_some h
          cases h
          exact rt_z hg19 C hP hS dX12_compares_111
        · rw [if_pos c68] at h
          refine lv_iconst (v := 1) C.1 C.2.1 dX12_compares_71 (by decide) ?_
          refine lv_goto (tgt := 111) C.1 C.2.1 dX12_compares_72 (by decide) ?_
          obtain ⟨hg20, h⟩ := gd_some h
          cases h
          exact rt_z hg20 C hP hS dX12_compares_111
    · rw [if_pos c34] at h
      refine lv_aload_n C.1 C.2.1 dX12_compares_37 rfl (lv_at hl 0 rfl) ?_
      obtain ⟨⟨r21, u22⟩, hc23, h⟩ := bd_some h
      try dsimp only at h
      refine cg_i (As := []) (rest := []) (AM_ge hJ) C hK hP hS (metX12_fails_0 l D cy ad st hJ _  hc23) (cwV 0 C.2.2.2.2.2.1 gX12_compares_X12_fails rfl rfl rfl (by decide +kernel) ⟨(Nat.le_of_ble_eq_true rfl), (Nat.le_of_ble_eq_true rfl)⟩) 0 12 rfl rfl rfl hl.1 rfl (Nat.le_of_ble_eq_true rfl) dX12_compares_38 ⟨Nat.zero_le _, Nat.zero_le _⟩ (fun H locs hP hS => ?_)
      obtain ⟨hg24, h⟩ := gd_some h
      cases h
      exact rt_z hg24 C hP hS dX12_compares_41
  · rw [if_neg c18] at h
    refine lv_iconst (v := 0) C.1 C.2.1 dX12_compares_21 (by decide) ?_
    obtain ⟨hg25, h⟩ := gd_some h
    cases h
    exact rt_z hg25 C hP hS dX12_compares_22
set_option maxHeartbeats 4000000 in
set_option maxRecDepth 100000 in
theorem wX12_compares_0 {p : Program} {l : Launch} {e : Env} {s : State} {m : MethodId} {args : Array Value} {below : List Frame} {meth : Method} {c : Code} {D : va_G} {cy : Nat → ClassId} {ad st : Nat → Nat} (C : Cx RX12 cX12_compares 6 (some .boolean) wsX12_compares p s m args meth c) (hK : Ky D [(cy 0, .int), (cy 1, .long), (cy 2, .boolean), (cy 3, .byte), (cy 4, .object "HissHorn$Text")] st s) (hJ : JM ad st) (x1 : Int32) (x2 : Int32) {u : SX} {r : Int32} {u' : SX} {H : Heap} {locs : List Loc} {ls : Array Slot} (h : fX12_compares_0 x1 x2 u = some (r, u')) (hP : va_P D vwCl (VM cy ad st u) H) (hS : va_S (Ax (AM ad) s.heap.size) s.heap H locs) (hl : lv_has ls 6 [(0, .ref (ad 0)), (1, .int x1), (2, .int x2)]) : W p l e rmX12_compares_0 s m args below meth c H locs 0 0 (MQ below (Qi D (VM cy ad st) (AM ad) s.heap.size r u') args s 0 0 (Ax (AM ad) s.heap.size)) (F0 m 0 ls []) := by
  unfold fX12_compares_0 at h
  refine lv_iload_n C.1 C.2.1 dX12_compares_0 rfl (lv_at hl 1 rfl) ?_
  refine lv_if_eq (tgt := 8) C.1 C.2.1 dX12_compares_1 (by decide) (fun c1 => ?_) (fun c1 => ?_)
  · rw [if_pos c1] at h
    refine lv_aload_n C.1 C.2.1 dX12_compares_8 rfl (lv_at hl 0 rfl) ?_
    obtain ⟨⟨r1, u2⟩, hc3, h⟩ := bd_some h
    try dsimp only at h
    refine cg_i (As := []) (rest := []) (AM_ge hJ) C hK hP hS ((hRX12sumg_all l D cy ad st hJ 64).1 _  _ _ _ hc3) (cwV 0 C.2.2.2.2.2.1 gX12_compares_X12_sum rfl rfl rfl (by decide +kernel) ⟨(Nat.le_of_ble_eq_true rfl), (Nat.le_of_ble_eq_true rfl)⟩) 0 12 rfl rfl rfl hl.1 rfl (Nat.le_of_ble_eq_true rfl) dX12_compares_9 ⟨Nat.zero_le _, Nat.zero_le _⟩ (fun H locs hP hS => ?_)
    exact wGX12_compares_0_12 C hK hJ _ _ _ _ _ h hP hS (lv_sub hl [0] rfl)
  · rw [if_neg c1] at h
    refine lv_iload_n C.1 C.2.1 dX12_compares_4 rfl (lv_at hl 2 rfl) ?_
    refine lv_goto (tgt := 12) C.1 C.2.1 dX12_compares_5 (by decide) ?_
    exact wGX12_compares_0_12 C hK hJ _ _ _ _ _ h hP hS (lv_sub hl [0] rfl)
theorem metX12_compares_0 (l : Launch) (D : va_G) (cy : Nat → ClassId) (ad st : Nat → Nat) (hJ : JM ad st) (sz : Nat) (x1 : Int32) (x2 : Int32) {u : SX} {r : Int32} {u' : SX} (h : fX12_compares_0 x1 x2 u = some (r, u')) : Met l yX12_compares wsX12_compares rmX12_compares_0 (va_Pc [.ref (ad 0), .int x1, .int x2] (Px D [(cy 0, .int), (cy 1, .long), (cy 2, .boolean), (cy 3, .byte), (cy 4, .object "HissHorn$Text")] st (VM cy ad st) sz u)) (Qi D (VM cy ad st) (AM ad) sz r u') 0 0 (Ax (AM ad) sz) := by
  refine Met.ofW (cc := cX12_compares) (maxL := 6) (ret := (some .boolean)) (by decide) rfl ?_
  intro p e s m args below meth c s₁ B hml hv
  obtain ⟨rfl, hsz, hP, hK⟩ := hv
  subst hsz
  have C : Cx RX12 cX12_compares 6 (some .boolean) wsX12_compares p s m _ meth c := ⟨B.exec, B.bytes, hml, B.returns, findClass_of_methodNamed B.named, atoms_spec (ws := wsX12_compares) B.pre, B.notSynchronized⟩
  have hl := lv_entry ([.ref (ad 0), .int x1, .int x2]) (n := 6) (Nat.le_of_ble_eq_true rfl)
  rw [lg_entry_eq]
  exact wX12_compares_0 C hK hJ x1 x2 h hP va_S.rf hl

/-- room of a recursion by its depth -/
def rmX12conditiong (d : Nat) : Room := { frames := 70 + d, cells := 0, slots := 0, locals := 4236 + 64 * d }
theorem rmX12conditiong_f (d : Nat) : 70 ≤ (rmX12conditiong d).frames := Nat.le_add_right _ _
theorem rmX12conditiong_l (d : Nat) : 4236 ≤ (rmX12conditiong d).locals := Nat.le_add_right _ _
theorem rmX12conditiong_sf (d : Nat) : (rmX12conditiong d).frames + 1 ≤ (rmX12conditiong (d + 1)).frames := Nat.le_refl _
theorem rmX12conditiong_sl (d : Nat) {k : Nat} (h : k ≤ 64) : k + (rmX12conditiong d).locals ≤ (rmX12conditiong (d + 1)).locals := by show k + (4236 + 64 * d) ≤ 4236 + 64 * (d + 1); omega
def hRX12conditiong (l : Launch) (D : va_G) (cy : Nat → ClassId) (ad st : Nat → Nat) (rc : Nat → Int32 → Int32 → SX → Option (Int32 × SX)) (dd : Nat) : Prop := (∀ (sz : Nat) (x1 : Int32) (x2 : Int32) (u : SX) (r : Int32) (u' : SX), rc 0 x1 x2 u = some (r, u') → Met l yX12_condition wsX12_condition (rmX12conditiong dd) (va_Pc [.ref (ad 0), .int x1, .int x2] (Px D [(cy 0, .int), (cy 1, .long), (cy 2, .boolean), (cy 3, .byte), (cy 4, .object "HissHorn$Text")] st (VM cy ad st) sz u)) (Qi D (VM cy ad st) (AM ad) sz r u') 0 0 (Ax (AM ad) sz)) ∧ (∀ (sz : Nat) (x1 : Int32) (x2 : Int32) (u : SX) (r : Int32) (u' : SX), rc 1 x1 x2 u = some (r, u') → Met l yX12_part wsX12_part (rmX12conditiong dd) (va_Pc [.ref (ad 0), .int x1, .int x2] (Px D [(cy 0, .int), (cy 1, .long), (cy 2, .boolean), (cy 3, .byte), (cy 4, .object "HissHorn$Text")] st (VM cy ad st) sz u)) (Qi D (VM cy ad st) (AM ad) sz r u') 0 0 (Ax (AM ad) sz)) ∧ (∀ (sz : Nat)  (u : SX) (r : Int32) (u' : SX), rc 2  0 0 u = some (r, u') → Met l yX12_unit wsX12_unit (rmX12conditiong dd) (va_Pc [.ref (ad 0)] (Px D [(cy 0, .int), (cy 1, .long), (cy 2, .boolean), (cy 3, .byte), (cy 4, .object "HissHorn$Text")] st (VM cy ad st) sz u)) (Qi D (VM cy ad st) (AM ad) sz r u') 0 0 (Ax (AM ad) sz))

theorem zdX12_condition_56 : (and (and (and (and (and (zk cX12_condition 56 (.istore_n 3) 1) (zk cX12_condition 57 (.goto (-50)) 3)) (and (zk cX12_condition 51 (.iconst 1) 1) (zk cX12_condition 52 (.goto 4) 3))) (and (and (zk cX12_condition 7 (.aload_n 0) 1) (zk cX12_condition 8 (.getfield 182) 3)) (and (zk cX12_condition 11 (.iconst (-1)) 1) (zk cX12_condition 12 (.if_icmp .ne 48) 3)))) (and (and (and (zk cX12_condition 60 (.iload_n 3) 1) (zk cX12_condition 61 (.ireturn) 1)) (and (zk cX12_condition 15 (.aload_n 0) 1) (zk cX12_condition 16 (.invokevirtual 192) 3))) (and (and (zk cX12_condition 19 (.bipush 124) 2) (zk cX12_condition 21 (.if_icmp .ne 39) 3)) (and (zk cX12_condition 24 (.aload_n 0) 1) (zk cX12_condition 25 (.dup) 1))))) (and (and (and (and (zk cX12_condition 26 (.getfield 173) 3) (zk cX12_condition 29 (.iconst 1) 1)) (and (zk cX12_condition 30 (.iadd) 1) (zk cX12_condition 31 (.putfield 173) 3))) (and (and (zk cX12_condition 34 (.aload_n 0) 1) (zk cX12_condition 35 (.iconst 0) 1)) (and (zk cX12_condition 36 (.iconst 0) 1) (zk cX12_condition 37 (.invokevirtual 250) 3)))) (and (and (and (zk cX12_condition 40 (.istore 4) 2) (zk cX12_condition 42 (.iload_n 3) 1)) (and (zk cX12_condition 43 (.ifCond .ne 8) 3) (zk cX12_condition 46 (.iload 4) 2))) (and (and (zk cX12_condition 48 (.ifCond .eq 7) 3) (zk cX12_condition 55 (.iconst 0) 1)) (and (zk cX12_condition 0 (.aload_n 0) 1) (zk cX12_condition 1 (.iload_n 1) 1)))))) = true := by decide +kernel
theorem dX12_condition_56 : decode cX12_condition 56 = .ok (.istore_n 3, 1) := zk_of (zk_l (zk_l (zk_l (zk_l (zk_l zdX12_condition_56)))))
theorem dX12_condition_57 : decode cX12_condition 57 = .ok (.goto (-50), 3) := zk_of (zk_r (zk_l (zk_l (zk_l (zk_l zdX12_condition_56)))))
theorem dX12_condition_51 : decode cX12_condition 51 = .ok (.iconst 1, 1) := zk_of (zk_l (zk_r (zk_l (zk_l (zk_l zdX12_condition_56)))))
theorem dX12_condition_52 : decode cX12_condition 52 = .ok (.goto 4, 3) := zk_of (zk_r (zk_r (zk_l (zk_l (zk_l zdX12_condition_56)))))
theorem dX12_condition_7 : decode cX12_condition 7 = .ok (.aload_n 0, 1) := zk_of (zk_l (zk_l (zk_r (zk_l (zk_l zdX12_condition_56)))))
theorem dX12_condition_8 : decode cX12_condition 8 = .ok (.getfield 182, 3) := zk_of (zk_r (zk_l (zk_r (zk_l (zk_l zdX12_condition_56)))))
theorem dX12_condition_11 : decode cX12_condition 11 = .ok (.iconst (-1), 1) := zk_of (zk_l (zk_r (zk_r (zk_l (zk_l zdX12_condition_56)))))
theorem dX12_condition_12 : decode cX12_condition 12 = .ok (.if_icmp .ne 48, 3) := zk_of (zk_r (zk_r (zk_r (zk_l (zk_l zdX12_condition_56)))))
theorem dX12_condition_60 : decode cX12_condition 60 = .ok (.iload_n 3, 1) := zk_of (zk_l (zk_l (zk_l (zk_r (zk_l zdX12_condition_56)))))
theorem dX12_condition_61 : decode cX12_condition 61 = .ok (.ireturn, 1) := zk_of (zk_r (zk_l (zk_l (zk_r (zk_l zdX12_condition_56)))))
theorem dX12_condition_15 : decode cX12_condition 15 = .ok (.aload_n 0, 1) := zk_of (zk_l (zk_r (zk_l (zk_r (zk_l zdX12_condition_56)))))
theorem dX12_condition_16 : decode cX12_condition 16 = .ok (.invokevirtual 192, 3) := zk_of (zk_r (zk_r (zk_l (zk_r (zk_l zdX12_condition_56)))))
theorem dX12_condition_19 : decode cX12_condition 19 = .ok (.bipush 124, 2) := zk_of (zk_l (zk_l (zk_r (zk_r (zk_l zdX12_condition_56)))))
theorem dX12_condition_21 : decode cX12_condition 21 = .ok (.if_icmp .ne 39, 3) := zk_of (zk_r (zk_l (zk_r (zk_r (zk_l zdX12_condition_56)))))
theorem dX12_condition_24 : decode cX12_condition 24 = .ok (.aload_n 0, 1) := zk_of (zk_l (zk_r (zk_r (zk_r (zk_l zdX12_condition_56)))))
theorem dX12_condition_25 : decode cX12_condition 25 = .ok (.dup, 1) := zk_of (zk_r (zk_r (zk_r (zk_r (zk_l zdX12_condition_56)))))
theorem dX12_condition_26 : decode cX12_condition 26 = .ok (.getfield 173, 3) := zk_of (zk_l (zk_l (zk_l (zk_l (zk_r zdX12_condition_56)))))
theorem dX12_condition_29 : decode cX12_condition 29 = .ok (.iconst 1, 1) := zk_of (zk_r (zk_l (zk_l (zk_l (zk_r zdX12_condition_56)))))
theorem dX12_condition_30 : decode cX12_condition 30 = .ok (.iadd, 1) := zk_of (zk_l (zk_r (zk_l (zk_l (zk_r zdX12_condition_56)))))
theorem dX12_condition_31 : decode cX12_condition 31 = .ok (.putfield 173, 3) := zk_of (zk_r (zk_r (zk_l (zk_l (zk_r zdX12_condition_56)))))
theorem dX12_condition_34 : decode cX12_condition 34 = .ok (.aload_n 0, 1) := zk_of (zk_l (zk_l (zk_r (zk_l (zk_r zdX12_condition_56)))))
theorem dX12_condition_35 : decode cX12_condition 35 = .ok (.iconst 0, 1) := zk_of (zk_r (zk_l (zk_r (zk_l (zk_r zdX12_condition_56)))))
theorem dX12_condition_36 : decode cX12_condition 36 = .ok (.iconst 0, 1) := zk_of (zk_l (zk_r (zk_r (zk_l (zk_r zdX12_condition_56)))))
theorem dX12_condition_37 : decode cX12_condition 37 = .ok (.invokevirtual 250, 3) := zk_of (zk_r (zk_r (zk_r (zk_l (zk_r zdX12_condition_56)))))
theorem dX12_condition_40 : decode cX12_condition 40 = .ok (.istore 4, 2) := zk_of (zk_l (zk_l (zk_l (zk_r (zk_r zdX12_condition_56)))))
theorem dX12_condition_42 : decode cX12_condition 42 = .ok (.iload_n 3, 1) := zk_of (zk_r (zk_l (zk_l (zk_r (zk_r zdX12_condition_56)))))
theorem dX12_condition_43 : decode cX12_condition 43 = .ok (.ifCond .ne 8, 3) := zk_of (zk_l (zk_r (zk_l (zk_r (zk_r zdX12_condition_56)))))
theorem dX12_condition_46 : decode cX12_condition 46 = .ok (.iload 4, 2) := zk_of (zk_r (zk_r (zk_l (zk_r (zk_r zdX12_condition_56)))))
theorem dX12_condition_48 : decode cX12_condition 48 = .ok (.ifCond .eq 7, 3) := zk_of (zk_l (zk_l (zk_r (zk_r (zk_r zdX12_condition_56)))))
theorem dX12_condition_55 : decode cX12_condition 55 = .ok (.iconst 0, 1) := zk_of (zk_r (zk_l (zk_r (zk_r (zk_r zdX12_condition_56)))))
theorem dX12_condition_0 : decode cX12_condition 0 = .ok (.aload_n 0, 1) := zk_of (zk_l (zk_r (zk_r (zk_r (zk_r zdX12_condition_56)))))
theorem dX12_condition_1 : decode cX12_condition 1 = .ok (.iload_n 1, 1) := zk_of (zk_r (zk_r (zk_r (zk_r (zk_r zdX12_condition_56)))))
set_option maxRecDepth 20000 in
theorem ggX12_condition_X12_look : GoodIn wsX12_condition wsX12_look := goodIn_r _ [10, 2, 11, 12, 13, 160, 161, 162, 163, 164, 165, 166, 167, 168, 169, 170, 171, 172, 173, 174, 175, 176, 177, 178, 179, 180, 181, 182, 183, 184, 185, 186, 187, 188, 189, 190, 191, 192, 193, 194, 195, 196, 197, 198, 199, 200, 201, 202, 203, 204, 205, 206, 207, 208, 209, 210, 211, 212, 213, 214, 215, 216, 217, 218, 219, 220, 221, 222, 223, 224, 225, 226, 227, 228] rfl (by decide +kernel)
set_option maxRecDepth 20000 in
theorem gX12_condition_X12_look : GoodIn wsX12_condition (wsV RX12 192 RX12 yX12_look wsX12_look) := goodIn_app (goodIn_of _ (by decide +kernel)) ggX12_condition_X12_look
set_option maxRecDepth 20000 in
theorem ggX12_condition_X12_part : GoodIn wsX12_condition wsX12_part := goodIn_r _ [14, 1, 2, 15, 16, 17, 6, 18, 19, 20, 21, 22, 23, 24, 25, 7, 8, 9, 10, 11, 12, 13, 26, 27, 28, 29, 30, 31, 32, 33, 34, 35, 36, 37, 38, 39, 40, 41, 42, 43, 44, 45, 46, 47, 48, 49, 50, 51, 52, 53, 54, 55, 56, 57, 58, 59, 60, 61, 62, 63, 64, 65, 66, 67, 68, 69, 70, 71, 72, 73, 74, 75, 76, 77, 78, 79, 80, 81, 82, 83, 84, 85, 86, 87, 88, 89, 90, 91, 92, 93, 94, 95, 96, 97, 98, 99, 100, 101, 102, 103, 104, 105, 106, 107, 108, 109, 110, 111, 112, 113, 114, 115, 116, 117, 118, 119, 120, 121, 122, 123, 124, 125, 126, 127, 128, 129, 130, 131, 132, 133, 134, 135, 136, 137, 138, 139, 140, 141, 142, 143, 144, 145, 146, 147, 148, 149, 150, 151, 152, 153, 154, 155, 0, 3, 4, 5, 156, 157, 158, 159, 160, 161, 162, 163, 164, 165, 166, 167, 168, 169, 170, 171, 172, 173, 174, 175, 176, 177, 178, 179, 180, 181, 182, 183, 184, 185, 186, 187, 188, 189, 190, 191, 192, 193, 194, 195, 196, 197, 198, 199, 200, 201, 202, 203, 204, 205, 206, 207, 208, 209, 210, 211, 212, 213, 214, 215, 216, 217, 218, 219, 220, 221, 222, 223, 224, 225, 226, 227, 228] rfl (by decide +kernel)
set_option maxRecDepth 20000 in
theorem gX12_condition_X12_part : GoodIn wsX12_condition (wsV RX12 250 RX12 yX12_part wsX12_part) := goodIn_app (goodIn_of _ (by decide +kernel)) ggX12_condition_X12_part
theorem zdX12_condition_2 : (and (and (zk cX12_condition 2 (.iload_n 2) 1) (zk cX12_condition 3 (.invokevirtual 250) 3)) (zk cX12_condition 6 (.istore_n 3) 1)) = true := by decide +kernel
theorem dX12_condition_2 : decode cX12_condition 2 = .ok (.iload_n 2, 1) := zk_of (zk_l (zk_l zdX12_condition_2))
theorem dX12_condition_3 : decode cX12_condition 3 = .ok (.invokevirtual 250, 3) := zk_of (zk_r (zk_l zdX12_condition_2))
theorem dX12_condition_6 : decode cX12_condition 6 = .ok (.istore_n 3, 1) := zk_of (zk_r zdX12_condition_2)
/-- HissHornModel.condition(ZI)Z of cell 0 -/
theorem hX12_condition_0_X12 : ∀ w ∈ u_ws RX12 TX12 69, w ∈ wsX12_condition := fun w h => (List.mem_cons_of_mem _ (List.mem_append_right _ h))
theorem mX12_condition_0_1 : Cond.fieldLink RX12 182 "HissHornModel" "fault" "I" ∈ wsX12_condition := (List.mem_cons_of_mem _ (List.mem_append_left _ (List.mem_append_left _ (List.mem_of_getElem? (i := 0) rfl))))
theorem mX12_condition_0_2 : Cond.fieldLink RX12 173 "HissHornModel" "at" "I" ∈ wsX12_condition := (List.mem_cons_of_mem _ (List.mem_append_left _ (List.mem_append_left _ (List.mem_of_getElem? (i := 1) rfl))))
def GX12_condition_0_56 (rc : Nat → Int32 → Int32 → SX → Option (Int32 × SX)) (k7 : Int32 → SX → Option (Int32 × SX)) (y0 : Int32) (u : SX) : Option (Int32 × SX) := (k7 y0 u)
def GX12_condition_0_51 (rc : Nat → Int32 → Int32 → SX → Option (Int32 × SX)) (k7 : Int32 → SX → Option (Int32 × SX))  (u : SX) : Option (Int32 × SX) := (GX12_condition_0_56 rc k7 1 u)
def LX12_condition_0_7 (rc : Nat → Int32 → Int32 → SX → Option (Int32 × SX))  : Nat → Int32 → SX → Option (Int32 × SX)
  | 0, _, _ => none
  | n + 1, z3, u => (if (u.1 7) = (-1) then ((fX12_look_0  u).bind fun q => match q with | (r5, u6) => (if r5 = 124 then (lt (sI u6 6 ((u6.1 6) + 1)) fun u9 => ((rc 1 0 0 u9).bind fun q => match q with | (r11, u12) => (if z3 = 0 then (if r11 = 0 then (GX12_condition_0_56 rc (LX12_condition_0_7 rc n) 0 u12) else (GX12_condition_0_51 rc (LX12_condition_0_7 rc n) u12)) else (GX12_condition_0_51 rc (LX12_condition_0_7 rc n) u12)))) else (gd (isB z3) (some (z3, u6))))) else (gd (isB z3) (some (z3, u))))
def fX12_condition_0 (rc : Nat → Int32 → Int32 → SX → Option (Int32 × SX)) (x1 : Int32) (x2 : Int32) (u : SX) : Option (Int32 × SX) := ((rc 1 x1 x2 u).bind fun q => match q with | (r1, u2) => (LX12_condition_0_7 rc  5000 r1 u2))
set_option maxHeartbeats 4000000 in
set_option maxRecDepth 100000 in
theorem wGX12_condition_0_56 {p : Program} {l : Launch} {e : Env} {s : State} {m : MethodId} {args : Array Value} {below : List Frame} {meth : Method} {c : Code} {D : va_G} {cy : Nat → ClassId} {ad st : Nat → Nat} (C : Cx RX12 cX12_condition 5 (some .boolean) wsX12_condition p s m args meth c) (hK : Ky D [(cy 0, .int), (cy 1, .long), (cy 2, .boolean), (cy 3, .byte), (cy 4, .object "HissHorn$Text")] st s) (hJ : JM ad st) {rc : Nat → Int32 → Int32 → SX → Option (Int32 × SX)} {dd : Nat} (hrc : hRX12conditiong l D cy ad st rc dd) {r : Int32} {u' : SX} {k7 : Int32 → SX → Option (Int32 × SX)} (hk7 : ∀ (z3 : Int32) (u : SX) (H : Heap) (locs : List Loc) (ls : Array Slot), k7 z3 u = some (r, u') → va_P D vwCl (VM cy ad st u) H → va_S (Ax (AM ad) s.heap.size) s.heap H locs → lv_has ls 5 [(0, .ref (ad 0)), (3, .int z3)] → W p l e (rmX12conditiong (dd + 1)) s m args below meth c H locs 0 0 (MQ below (Qi D (VM cy ad st) (AM ad) s.heap.size r u') args s 0 0 (Ax (AM ad) s.heap.size)) (F0 m 7 ls [])) (y0 : Int32) (u : SX) (H : Heap) (locs : List Loc) (ls : Array Slot) (h : GX12_condition_0_56 rc k7 y0 u = some (r, u')) (hP : va_P D vwCl (VM cy ad st u) H) (hS : va_S (Ax (AM ad) s.heap.size) s.heap H locs) (hl : lv_has ls 5 [(0, .ref (ad 0))]) : W p l e (rmX12conditiong (dd + 1)) s m args below meth c H locs 0 0 (MQ below (Qi D (VM cy ad st) (AM ad) s.heap.size r u') args s 0 0 (Ax (AM ad) s.heap.size)) (F0 m 56 ls [.int y0]) := by
  unfold GX12_condition_0_56 at h
  refine lv_istore_n (lv' := [(3, .int y0), (0, .ref (ad 0))]) C.1 C.2.1 dX12_condition_56 rfl hl (by decide) rfl (fun ls hl => ?_)
  replace hl := lv_sub (l' := [(0, .ref (ad 0)), (3, .int y0)]) hl [1, 0] rfl
  refine lv_goto (tgt := 7) C.1 C.2.1 dX12_condition_57 (by decide) ?_
  exact hk7 _ _ _ _ _ h hP hS hl
set_option maxHeartbeats 4000000 in
set_option maxRecDepth 100000 in
theorem wGX12_condition_0_51 {p : Program} {l : Launch} {e : Env} {s : State} {m : MethodId} {args : Array Value} {below : List Frame} {meth : Method} {c : Code} {D : va_G} {cy : Nat → ClassId} {ad st : Nat → Nat} (C : Cx RX12 cX12_condition 5 (some .boolean) wsX12_condition p s m args meth c) (hK : Ky D [(cy 0, .int), (cy 1, .long), (cy 2, .boolean), (cy 3, .byte), (cy 4, .object "HissHorn$Text")] st s) (hJ : JM ad st) {rc : Nat → Int32 → Int32 → SX → Option (Int32 × SX)} {dd : Nat} (hrc : hRX12conditiong l D cy ad st rc dd) {r : Int32} {u' : SX} {k7 : Int32 → SX → Option (Int32 × SX)} (hk7 : ∀ (z3 : Int32) (u : SX) (H : Heap) (locs : List Loc) (ls : Array Slot), k7 z3 u = some (r, u') → va_P D vwCl (VM cy ad st u) H → va_S (Ax (AM ad) s.heap.size) s.heap H locs → lv_has ls 5 [(0, .ref (ad 0)), (3, .int z3)] → W p l e (rmX12conditiong (dd + 1)) s m args below meth c H locs 0 0 (MQ below (Qi D (VM cy ad st) (AM ad) s.heap.size r u') args s 0 0 (Ax (AM ad) s.heap.size)) (F0 m 7 ls [])) (u : SX) (H : Heap) (locs : List Loc) (ls : Array Slot) (h : GX12_condition_0_51 rc k7  u = some (r, u')) (hP : va_P D vwCl (VM cy ad st u) H) (hS : va_S (Ax (AM ad) s.heap.size) s.heap H locs) (hl : lv_has ls 5 [(0, .ref (ad 0))]) : W p l e (rmX12conditiong (dd + 1)) s m args below meth c H locs 0 0 (MQ below (Qi D (VM cy ad st) (AM ad) s.heap.size r u') args s 0 0 (Ax (AM ad) s.heap.size)) (F0 m 51 ls []) := by
  unfold GX12_condition_0_51 at h
  refine lv_iconst (v := 1) C.1 C.2.1 dX12_condition_51 (by decide) ?_
  refine lv_goto (tgt := 56) C.1 C.2.1 dX12_condition_52 (by decide) ?_
  exact wGX12_condition_0_56 C hK hJ hrc hk7 _ _ _ _ _ h hP hS hl
set_option maxHeartbeats 4000000 in
set_option maxRecDepth 100000 in
theorem wLX12_condition_0_7 {p : Program} {l : Launch} {e : Env} {s : State} {m : MethodId} {args : Array Value} {below : List Frame} {meth : Method} {c : Code} {D : va_G} {cy : Nat → ClassId} {ad st : Nat → Nat} (C : Cx RX12 cX12_condition 5 (some .boolean) wsX12_condition p s m args meth c) (hK : Ky D [(cy 0, .int), (cy 1, .long), (cy 2, .boolean), (cy 3, .byte), (cy 4, .object "HissHorn$Text")] st s) (hJ : JM ad st) {rc : Nat → Int32 → Int32 → SX → Option (Int32 × SX)} {dd : Nat} (hrc : hRX12conditiong l D cy ad st rc dd) {r : Int32} {u' : SX}   : ∀ (n : Nat) (z3 : Int32) (u : SX) (H : Heap) (locs : List Loc) (ls : Array Slot), LX12_condition_0_7 rc  n z3 u = some (r, u') → va_P D vwCl (VM cy ad st u) H → va_S (Ax (AM ad) s.heap.size) s.heap H locs → lv_has ls 5 [(0, .ref (ad 0)), (3, .int z3)] → W p l e (rmX12conditiong (dd + 1)) s m args below meth c H locs 0 0 (MQ below (Qi D (VM cy ad st) (AM ad) s.heap.size r u') args s 0 0 (Ax (AM ad) s.heap.size)) (F0 m 7 ls []) := by
  intro n
  induction n with
  | zero =>
    intro z3 u H locs ls h
    exact absurd h (by intro q; cases q)
  | succ n ih =>
    intro z3 u H locs ls h hP hS hl
    rw [LX12_condition_0_7] at h
    refine lv_aload_n C.1 C.2.1 dX12_condition_7 rfl (lv_at hl 0 rfl) ?_
    refine gM_0_fault C hX12_condition_0_X12 hK hP mX12_condition_0_1 dX12_condition_8 ?_
    refine lv_iconst (v := (-1)) C.1 C.2.1 dX12_condition_11 (by decide) ?_
    refine lv_icmp_ne (tgt := 60) C.1 C.2.1 dX12_condition_12 (by decide) (fun c12 => ?_) (fun c12 => ?_)
    · rw [if_neg c12] at h
      refine lv_iload_n C.1 C.2.1 dX12_condition_60 rfl (lv_at hl 1 rfl) ?_
      obtain ⟨hg4, h⟩ := gd_some h
      cases h
      exact rt_z hg4 C hP hS dX12_condition_61
    · rw [if_pos c12] at h
      refine lv_aload_n C.1 C.2.1 dX12_condition_15 rfl (lv_at hl 0 rfl) ?_
      obtain ⟨⟨r5, u6⟩, hc7, h⟩ := bd_some h
      try dsimp only at h
      refine cg_i (As := []) (rest := []) (AM_ge hJ) C hK hP hS (metX12_look_0 l D cy ad st hJ _  hc7) (cwV 0 C.2.2.2.2.2.1 gX12_condition_X12_look rfl rfl rfl (by decide +kernel) ⟨(Nat.le_trans (m := 70) (Nat.le_of_ble_eq_true rfl) (rmX12conditiong_f _)), (Nat.le_trans (m := 4236) (Nat.le_of_ble_eq_true rfl) (rmX12conditiong_l _))⟩) 0 12 rfl rfl rfl hl.1 rfl (Nat.le_of_ble_eq_true rfl) dX12_condition_16 ⟨Nat.zero_le _, Nat.zero_le _⟩ (fun H locs hP hS => ?_)
      refine lv_bipush (v := 124) C.1 C.2.1 dX12_condition_19 (by decide) ?_
      refine lv_icmp_ne (tgt := 60) C.1 C.2.1 dX12_condition_21 (by decide) (fun c21 => ?_) (fun c21 => ?_)
      · rw [if_neg c21] at h
        refine lv_iload_n C.1 C.2.1 dX12_condition_60 rfl (lv_at hl 1 rfl) ?_
        obtain ⟨hg8, h⟩ := gd_some h
        cases h
        exact rt_z hg8 C hP hS dX12_condition_61
      · rw [if_pos c21] at h
        refine lv_aload_n C.1 C.2.1 dX12_condition_24 rfl (lv_at hl 0 rfl) ?_
        refine lv_dup C.1 C.2.1 dX12_condition_25 rfl ?_
        refine gM_0_at C hX12_condition_0_X12 hK hP mX12_condition_0_2 dX12_condition_26 ?_
        refine lv_iconst (v := 1) C.1 C.2.1 dX12_condition_29 (by decide) ?_
        refine lv_iadd C.1 C.2.1 dX12_condition_30 ?_
        refine pM_0_at C hX12_condition_0_X12 hK hP hJ hS mX12_condition_0_2 dX12_condition_31 (fun H locs hP hS => ?_)
        obtain ⟨u9, hu10, h⟩ := lt_some h
        rw [← hu10] at hP
        refine lv_aload_n C.1 C.2.1 dX12_condition_34 rfl (lv_at hl 0 rfl) ?_
        refine lv_iconst (v := 0) C.1 C.2.1 dX12_condition_35 (by decide) ?_
        refine lv_iconst (v := 0) C.1 C.2.1 dX12_condition_36 (by decide) ?_
        obtain ⟨⟨r11, u12⟩, hc13, h⟩ := bd_some h
        try dsimp only at h
        refine cg_i (As := [.int 0, .int 0]) (rest := []) (AM_ge hJ) C hK hP hS (hrc.2.1 _ 0 0 _ _ _ hc13) (cwV 2 C.2.2.2.2.2.1 gX12_condition_X12_part rfl rfl rfl (by decide +kernel) ⟨rmX12conditiong_sf dd, rmX12conditiong_sl dd (k := 8 + (5 + 11)) (Nat.le_of_ble_eq_true rfl)⟩) 0 12 rfl rfl rfl hl.1 rfl (Nat.le_of_ble_eq_true rfl) dX12_condition_37 ⟨Nat.zero_le _, Nat.zero_le _⟩ (fun H locs hP hS => ?_)
        refine lv_istore (lv' := [(4, .int r11), (0, .ref (ad 0)), (3, .int z3)]) C.1 C.2.1 dX12_condition_40 hl (by decide) rfl (fun ls hl => ?_)
        replace hl := lv_sub (l' := [(0, .ref (ad 0)), (3, .int z3), (4, .int r11)]) hl [1, 2, 0] rfl
        refine lv_iload_n C.1 C.2.1 dX12_condition_42 rfl (lv_at hl 1 rfl) ?_
        refine lv_if_ne (tgt := 51) C.1 C.2.1 dX12_condition_43 (by decide) (fun c43 => ?_) (fun c43 => ?_)
        · rw [if_neg c43] at h
          exact wGX12_condition_0_51 C hK hJ hrc ih _ _ _ _ h hP hS (lv_sub hl [0] rfl)
        · rw [if_pos c43] at h
          refine lv_iload C.1 C.2.1 dX12_condition_46 (lv_at hl 2 rfl) ?_
          refine lv_if_eq (tgt := 55) C.1 C.2.1 dX12_condition_48 (by decide) (fun c48 => ?_) (fun c48 => ?_)
          · rw [if_pos c48] at h
            refine lv_iconst (v := 0) C.1 C.2.1 dX12_condition_55 (by decide) ?_
            exact wGX12_condition_0_56 C hK hJ hrc ih _ _ _ _ _ h hP hS (lv_sub hl [0] rfl)
          · rw [if_neg c48] at h
            exact wGX12_condition_0_51 C hK hJ hrc ih _ _ _ _ h hP hS (lv_sub hl [0] rfl)
set_option maxHeartbeats 4000000 in
set_option maxRecDepth 100000 in
theorem wX12_condition_0 {p : Program} {l : Launch} {e : Env} {s : State} {m : MethodId} {args : Array Value} {below : List Frame} {meth : Method} {c : Code} {D : va_G} {cy : Nat → ClassId} {ad st : Nat → Nat} (C : Cx RX12 cX12_condition 5 (some .boolean) wsX12_condition p s m args meth c) (hK : Ky D [(cy 0, .int), (cy 1, .long), (cy 2, .boolean), (cy 3, .byte), (cy 4, .object "HissHorn$Text")] st s) (hJ : JM ad st) {rc : Nat → Int32 → Int32 → SX → Option (Int32 × SX)} {dd : Nat} (hrc : hRX12conditiong l D cy ad st rc dd) (x1 : Int32) (x2 : Int32) {u : SX} {r : Int32} {u' : SX} {H : Heap} {locs : List Loc} {ls : Array Slot} (h : fX12_condition_0 rc x1 x2 u = some (r, u')) (hP : va_P D vwCl (VM cy ad st u) H) (hS : va_S (Ax (AM ad) s.heap.size) s.heap H locs) (hl : lv_has ls 5 [(0, .ref (ad 0)), (1, .int x1), (2, .int x2)]) : W p l e (rmX12conditiong (dd + 1)) s m args below meth c H locs 0 0 (MQ below (Qi D (VM cy ad st) (AM ad) s.heap.size r u') args s 0 0 (Ax (AM ad) s.heap.size)) (F0 m 0 ls []) := by
  unfold fX12_condition_0 at h
  refine lv_aload_n C.1 C.2.1 dX12_condition_0 rfl (lv_at hl 0 rfl) ?_
  refine lv_iload_n C.1 C.2.1 dX12_condition_1 rfl (lv_at hl 1 rfl) ?_
  refine lv_iload_n C.1 C.2.1 dX12_condition_2 rfl (lv_at hl 2 rfl) ?_
  obtain ⟨⟨r1, u2⟩, hc3, h⟩ := bd_some h
  try dsimp only at h
  refine cg_i (As := [.int x1, .int x2]) (rest := []) (AM_ge hJ) C hK hP hS (hrc.2.1 _ x1 x2 _ _ _ hc3) (cwV 2 C.2.2.2.2.2.1 gX12_condition_X12_part rfl rfl rfl (by decide +kernel) ⟨rmX12conditiong_sf dd, rmX12conditiong_sl dd (k := 8 + (5 + 11)) (Nat.le_of_ble_eq_true rfl)⟩) 0 12 rfl rfl rfl hl.1 rfl (Nat.le_of_ble_eq_true rfl) dX12_condition_3 ⟨Nat.zero_le _, Nat.zero_le _⟩ (fun H locs hP hS => ?_)
  refine lv_istore_n (lv' := [(3, .int r1), (0, .ref (ad 0)), (1, .int x1), (2, .int x2)]) C.1 C.2.1 dX12_condition_6 rfl hl (by decide) rfl (fun ls hl => ?_)
  replace hl := lv_sub (l' := [(0, .ref (ad 0)), (1, .int x1), (2, .int x2), (3, .int r1)]) hl [1, 2, 3, 0] rfl
  exact wLX12_condition_0_7 C hK hJ hrc  5000 _ _ _ _ _ h hP hS (lv_sub hl [0, 3] rfl)
theorem metX12_condition_0 (l : Launch) (D : va_G) (cy : Nat → ClassId) (ad st : Nat → Nat) (hJ : JM ad st) {rc : Nat → Int32 → Int32 → SX → Option (Int32 × SX)} {dd : Nat} (hrc : hRX12conditiong l D cy ad st rc dd) (sz : Nat) (x1 : Int32) (x2 : Int32) {u : SX} {r : Int32} {u' : SX} (h : fX12_condition_0 rc x1 x2 u = some (r, u')) : Met l yX12_condition wsX12_condition (rmX12conditiong (dd + 1)) (va_Pc [.ref (ad 0), .int x1, .int x2] (Px D [(cy 0, .int), (cy 1, .long), (cy 2, .boolean), (cy 3, .byte), (cy 4, .object "HissHorn$Text")] st (VM cy ad st) sz u)) (Qi D (VM cy ad st) (AM ad) sz r u') 0 0 (Ax (AM ad) sz) := by
  refine Met.ofW (cc := cX12_condition) (maxL := 5) (ret := (some .boolean)) (by decide) rfl ?_
  intro p e s m args below meth c s₁ B hml hv
  obtain ⟨rfl, hsz, hP, hK⟩ := hv
  subst hsz
  have C : Cx RX12 cX12_condition 5 (some .boolean) wsX12_condition p s m _ meth c := ⟨B.exec, B.bytes, hml, B.returns, findClass_of_methodNamed B.named, atoms_spec (ws := wsX12_condition) B.pre, B.notSynchronized⟩
  have hl := lv_entry ([.ref (ad 0), .int x1, .int x2]) (n := 5) (Nat.le_of_ble_eq_true rfl)
  rw [lg_entry_eq]
  exact wX12_condition_0 C hK hJ hrc x1 x2 h hP va_S.rf hl

theorem zdX12_part_65 : (and (and (and (and (and (zk cX12_part 65 (.istore_n 3) 1) (zk cX12_part 66 (.goto (-48)) 3)) (and (zk cX12_part 64 (.iconst 0) 1) (zk cX12_part 18 (.aload_n 0) 1))) (and (and (zk cX12_part 19 (.getfield 182) 3) (zk cX12_part 22 (.iconst (-1)) 1)) (and (zk cX12_part 23 (.if_icmp .ne 46) 3) (zk cX12_part 69 (.iload_n 3) 1)))) (and (and (and (zk cX12_part 70 (.ireturn) 1) (zk cX12_part 26 (.aload_n 0) 1)) (and (zk cX12_part 27 (.invokevirtual 192) 3) (zk cX12_part 30 (.bipush 38) 2))) (and (and (zk cX12_part 32 (.if_icmp .ne 37) 3) (zk cX12_part 35 (.aload_n 0) 1)) (and (zk cX12_part 36 (.dup) 1) (zk cX12_part 37 (.getfield 173) 3))))) (and (and (and (and (zk cX12_part 40 (.iconst 1) 1) (zk cX12_part 41 (.iadd) 1)) (and (zk cX12_part 42 (.putfield 173) 3) (zk cX12_part 45 (.aload_n 0) 1))) (and (and (zk cX12_part 46 (.invokevirtual 240) 3) (zk cX12_part 49 (.istore 4) 2)) (and (zk cX12_part 51 (.iload_n 3) 1) (zk cX12_part 52 (.ifCond .eq 12) 3)))) (and (and (and (zk cX12_part 55 (.iload 4) 2) (zk cX12_part 57 (.ifCond .eq 7) 3)) (and (zk cX12_part 60 (.iconst 1) 1) (zk cX12_part 61 (.goto 4) 3))) (and (and (zk cX12_part 17 (.istore_n 3) 1) (zk cX12_part 0 (.iload_n 1) 1)) (and (zk cX12_part 1 (.ifCond .eq 12) 3) (zk cX12_part 13 (.aload_n 0) 1)))))) = true := by decide +kernel
theorem dX12_part_65 : decode cX12_part 65 = .ok (.istore_n 3, 1) := zk_of (zk_l (zk_l (zk_l (zk_l (zk_l zdX12_part_65)))))
theorem dX12_part_66 : decode cX12_part 66 = .ok (.goto (-48), 3) := zk_of (zk_r (zk_l (zk_l (zk_l (zk_l zdX12_part_65)))))
theorem dX12_part_64 : decode cX12_part 64 = .ok (.iconst 0, 1) := zk_of (zk_l (zk_r (zk_l (zk_l (zk_l zdX12_part_65)))))
theorem dX12_part_18 : decode cX12_part 18 = .ok (.aload_n 0, 1) := zk_of (zk_r (zk_r (zk_l (zk_l (zk_l zdX12_part_65)))))
theorem dX12_part_19 : decode cX12_part 19 = .ok (.getfield 182, 3) := zk_of (zk_l (zk_l (zk_r (zk_l (zk_l zdX12_part_65)))))
theorem dX12_part_22 : decode cX12_part 22 = .ok (.iconst (-1), 1) := zk_of (zk_r (zk_l (zk_r (zk_l (zk_l zdX12_part_65)))))
theorem dX12_part_23 : decode cX12_part 23 = .ok (.if_icmp .ne 46, 3) := zk_of (zk_l (zk_r (zk_r (zk_l (zk_l zdX12_part_65)))))
theorem dX12_part_69 : decode cX12_part 69 = .ok (.iload_n 3, 1) := zk_of (zk_r (zk_r (zk_r (zk_l (zk_l zdX12_part_65)))))
theorem dX12_part_70 : decode cX12_part 70 = .ok (.ireturn, 1) := zk_of (zk_l (zk_l (zk_l (zk_r (zk_l zdX12_part_65)))))
theorem dX12_part_26 : decode cX12_part 26 = .ok (.aload_n 0, 1) := zk_of (zk_r (zk_l (zk_l (zk_r (zk_l zdX12_part_65)))))
theorem dX12_part_27 : decode cX12_part 27 = .ok (.invokevirtual 192, 3) := zk_of (zk_l (zk_r (zk_l (zk_r (zk_l zdX12_part_65)))))
theorem dX12_part_30 : decode cX12_part 30 = .ok (.bipush 38, 2) := zk_of (zk_r (zk_r (zk_l (zk_r (zk_l zdX12_part_65)))))
theorem dX12_part_32 : decode cX12_part 32 = .ok (.if_icmp .ne 37, 3) := zk_of (zk_l (zk_l (zk_r (zk_r (zk_l zdX12_part_65)))))
theorem dX12_part_35 : decode cX12_part 35 = .ok (.aload_n 0, 1) := zk_of (zk_r (zk_l (zk_r (zk_r (zk_l zdX12_part_65)))))
theorem dX12_part_36 : decode cX12_part 36 = .ok (.dup, 1) := zk_of (zk_l (zk_r (zk_r (zk_r (zk_l zdX12_part_65)))))
theorem dX12_part_37 : decode cX12_part 37 = .ok (.getfield 173, 3) := zk_of (zk_r (zk_r (zk_r (zk_r (zk_l zdX12_part_65)))))
theorem dX12_part_40 : decode cX12_part 40 = .ok (.iconst 1, 1) := zk_of (zk_l (zk_l (zk_l (zk_l (zk_r zdX12_part_65)))))
theorem dX12_part_41 : decode cX12_part 41 = .ok (.iadd, 1) := zk_of (zk_r (zk_l (zk_l (zk_l (zk_r zdX12_part_65)))))
theorem dX12_part_42 : decode cX12_part 42 = .ok (.putfield 173, 3) := zk_of (zk_l (zk_r (zk_l (zk_l (zk_r zdX12_part_65)))))
theorem dX12_part_45 : decode cX12_part 45 = .ok (.aload_n 0, 1) := zk_of (zk_r (zk_r (zk_l (zk_l (zk_r zdX12_part_65)))))
theorem dX12_part_46 : decode cX12_part 46 = .ok (.invokevirtual 240, 3) := zk_of (zk_l (zk_l (zk_r (zk_l (zk_r zdX12_part_65)))))
theorem dX12_part_49 : decode cX12_part 49 = .ok (.istore 4, 2) := zk_of (zk_r (zk_l (zk_r (zk_l (zk_r zdX12_part_65)))))
theorem dX12_part_51 : decode cX12_part 51 = .ok (.iload_n 3, 1) := zk_of (zk_l (zk_r (zk_r (zk_l (zk_r zdX12_part_65)))))
theorem dX12_part_52 : decode cX12_part 52 = .ok (.ifCond .eq 12, 3) := zk_of (zk_r (zk_r (zk_r (zk_l (zk_r zdX12_part_65)))))
theorem dX12_part_55 : decode cX12_part 55 = .ok (.iload 4, 2) := zk_of (zk_l (zk_l (zk_l (zk_r (zk_r zdX12_part_65)))))
theorem dX12_part_57 : decode cX12_part 57 = .ok (.ifCond .eq 7, 3) := zk_of (zk_r (zk_l (zk_l (zk_r (zk_r zdX12_part_65)))))
theorem dX12_part_60 : decode cX12_part 60 = .ok (.iconst 1, 1) := zk_of (zk_l (zk_r (zk_l (zk_r (zk_r zdX12_part_65)))))
theorem dX12_part_61 : decode cX12_part 61 = .ok (.goto 4, 3) := zk_of (zk_r (zk_r (zk_l (zk_r (zk_r zdX12_part_65)))))
theorem dX12_part_17 : decode cX12_part 17 = .ok (.istore_n 3, 1) := zk_of (zk_l (zk_l (zk_r (zk_r (zk_r zdX12_part_65)))))
theorem dX12_part_0 : decode cX12_part 0 = .ok (.iload_n 1, 1) := zk_of (zk_r (zk_l (zk_r (zk_r (zk_r zdX12_part_65)))))
theorem dX12_part_1 : decode cX12_part 1 = .ok (.ifCond .eq 12, 3) := zk_of (zk_l (zk_r (zk_r (zk_r (zk_r zdX12_part_65)))))
theorem dX12_part_13 : decode cX12_part 13 = .ok (.aload_n 0, 1) := zk_of (zk_r (zk_r (zk_r (zk_r (zk_r zdX12_part_65)))))
set_option maxRecDepth 20000 in
theorem ggX12_part_X12_look : GoodIn wsX12_part wsX12_look := goodIn_r _ [18, 2, 19, 20, 21, 160, 161, 162, 163, 164, 165, 166, 167, 168, 169, 170, 171, 172, 173, 174, 175, 176, 177, 178, 179, 180, 181, 182, 183, 184, 185, 186, 187, 188, 189, 190, 191, 192, 193, 194, 195, 196, 197, 198, 199, 200, 201, 202, 203, 204, 205, 206, 207, 208, 209, 210, 211, 212, 213, 214, 215, 216, 217, 218, 219, 220, 221, 222, 223, 224, 225, 226, 227, 228] rfl (by decide +kernel)
set_option maxRecDepth 20000 in
theorem gX12_part_X12_look : GoodIn wsX12_part (wsV RX12 192 RX12 yX12_look wsX12_look) := goodIn_app (goodIn_of _ (by decide +kernel)) ggX12_part_X12_look
set_option maxRecDepth 20000 in
theorem ggX12_part_X12_unit : GoodIn wsX12_part wsX12_unit := goodIn_r _ [156, 37, 15, 16, 17, 6, 18, 2, 19, 20, 21, 126, 127, 128, 129, 130, 131, 132, 133, 1, 149, 150, 151, 157, 158, 159, 134, 135, 136, 137, 3, 4, 5, 7, 8, 9, 10, 11, 12, 13, 14, 22, 23, 24, 25, 26, 27, 28, 29, 30, 31, 32, 33, 34, 35, 36, 38, 39, 40, 41, 42, 43, 44, 45, 46, 47, 48, 49, 50, 51, 52, 53, 54, 55, 56, 57, 58, 59, 60, 61, 62, 63, 64, 65, 66, 67, 68, 69, 70, 71, 72, 73, 74, 75, 76, 77, 78, 79, 80, 81, 82, 83, 84, 85, 86, 87, 88, 89, 90, 91, 92, 93, 94, 95, 96, 97, 98, 99, 100, 101, 102, 103, 104, 105, 106, 107, 108, 109, 110, 111, 112, 113, 114, 115, 116, 117, 118, 119, 120, 121, 122, 123, 124, 125, 138, 139, 140, 141, 142, 143, 144, 145, 146, 147, 148, 152, 153, 154, 155, 0, 160, 161, 162, 163, 164, 165, 166, 167, 168, 169, 170, 171, 172, 173, 174, 175, 176, 177, 178, 179, 180, 181, 182, 183, 184, 185, 186, 187, 188, 189, 190, 191, 192, 193, 194, 195, 196, 197, 198, 199, 200, 201, 202, 203, 204, 205, 206, 207, 208, 209, 210, 211, 212, 213, 214, 215, 216, 217, 218, 219, 220, 221, 222, 223, 224, 225, 226, 227, 228] rfl (by decide +kernel)
set_option maxRecDepth 20000 in
theorem gX12_part_X12_unit : GoodIn wsX12_part (wsV RX12 240 RX12 yX12_unit wsX12_unit) := goodIn_app (goodIn_of _ (by decide +kernel)) ggX12_part_X12_unit
theorem zdX12_part_14 : (and (and (and (zk cX12_part 14 (.invokevirtual 240) 3) (zk cX12_part 4 (.aload_n 0) 1)) (zk cX12_part 5 (.iconst 1) 1)) (and (and (zk cX12_part 6 (.iload_n 2) 1) (zk cX12_part 7 (.invokevirtual 247) 3)) (zk cX12_part 10 (.goto 7) 3))) = true := by decide +kernel
theorem dX12_part_14 : decode cX12_part 14 = .ok (.invokevirtual 240, 3) := zk_of (zk_l (zk_l (zk_l zdX12_part_14)))
theorem dX12_part_4 : decode cX12_part 4 = .ok (.aload_n 0, 1) := zk_of (zk_r (zk_l (zk_l zdX12_part_14)))
theorem dX12_part_5 : decode cX12_part 5 = .ok (.iconst 1, 1) := zk_of (zk_r (zk_l zdX12_part_14))
theorem dX12_part_6 : decode cX12_part 6 = .ok (.iload_n 2, 1) := zk_of (zk_l (zk_l (zk_r zdX12_part_14)))
theorem dX12_part_7 : decode cX12_part 7 = .ok (.invokevirtual 247, 3) := zk_of (zk_r (zk_l (zk_r zdX12_part_14)))
theorem dX12_part_10 : decode cX12_part 10 = .ok (.goto 7, 3) := zk_of (zk_r (zk_r zdX12_part_14))
set_option maxRecDepth 20000 in
theorem ggX12_part_X12_compares : GoodIn wsX12_part wsX12_compares := goodIn_r _ [7, 1, 2, 8, 9, 10, 6, 11, 12, 13, 14, 15, 16, 17, 18, 19, 20, 21, 22, 23, 24, 25, 26, 27, 28, 29, 30, 31, 32, 33, 34, 35, 36, 37, 38, 39, 40, 41, 42, 43, 44, 45, 46, 47, 48, 49, 50, 51, 52, 53, 54, 55, 56, 57, 58, 59, 60, 61, 62, 63, 64, 65, 66, 67, 68, 69, 70, 71, 72, 73, 74, 75, 76, 77, 78, 79, 80, 81, 82, 83, 84, 85, 86, 87, 88, 89, 90, 91, 92, 93, 94, 95, 96, 97, 98, 99, 100, 101, 102, 103, 104, 105, 106, 107, 108, 109, 110, 111, 112, 113, 114, 115, 116, 117, 118, 119, 120, 121, 122, 123, 124, 125, 126, 127, 128, 129, 130, 131, 132, 133, 134, 135, 136, 137, 138, 139, 140, 141, 142, 143, 144, 145, 146, 147, 148, 160, 161, 162, 163, 164, 165, 166, 167, 168, 169, 170, 171, 172, 173, 174, 175, 176, 177, 178, 179, 180, 181, 182, 183, 184, 185, 186, 187, 188, 189, 190, 191, 192, 193, 194, 195, 196, 197, 198, 199, 200, 201, 202, 203, 204, 205, 206, 207, 208, 209, 210, 211, 212, 213, 214, 215, 216, 217, 218, 219, 220, 221, 222, 223, 224, 225, 226, 227, 228] rfl (by decide +kernel)
set_option maxRecDepth 20000 in
theorem gX12_part_X12_compares : GoodIn wsX12_part (wsV RX12 247 RX12 yX12_compares wsX12_compares) := goodIn_app (goodIn_of _ (by decide +kernel)) ggX12_part_X12_compares
/-- HissHornModel.part(ZI)Z of cell 0 -/
theorem hX12_part_0_X12 : ∀ w ∈ u_ws RX12 TX12 69, w ∈ wsX12_part := fun w h => (List.mem_cons_of_mem _ (List.mem_append_right _ h))
theorem mX12_part_0_1 : Cond.fieldLink RX12 182 "HissHornModel" "fault" "I" ∈ wsX12_part := (List.mem_cons_of_mem _ (List.mem_append_left _ (List.mem_append_left _ (List.mem_of_getElem? (i := 0) rfl))))
theorem mX12_part_0_2 : Cond.fieldLink RX12 173 "HissHornModel" "at" "I" ∈ wsX12_part := (List.mem_cons_of_mem _ (List.mem_append_left _ (List.mem_append_left _ (List.mem_of_getElem? (i := 1) rfl))))
def GX12_part_0_65 (rc : Nat → Int32 → Int32 → SX → Option (Int32 × SX)) (k18 : Int32 → SX → Option (Int32 × SX)) (y0 : Int32) (u : SX) : Option (Int32 × SX) := (k18 y0 u)
def GX12_part_0_64 (rc : Nat → Int32 → Int32 → SX → Option (Int32 × SX)) (k18 : Int32 → SX → Option (Int32 × SX))  (u : SX) : Option (Int32 × SX) := (GX12_part_0_65 rc k18 0 u)
def LX12_part_0_18 (rc : Nat → Int32 → Int32 → SX → Option (Int32 × SX))  : Nat → Int32 → SX → Option (Int32 × SX)
  | 0, _, _ => none
  | n + 1, z3, u => (if (u.1 7) = (-1) then ((fX12_look_0  u).bind fun q => match q with | (r5, u6) => (if r5 = 38 then (lt (sI u6 6 ((u6.1 6) + 1)) fun u9 => ((rc 2  0 0 u9).bind fun q => match q with | (r11, u12) => (if z3 = 0 then (GX12_part_0_64 rc (LX12_part_0_18 rc n) u12) else (if r11 = 0 then (GX12_part_0_64 rc (LX12_part_0_18 rc n) u12) else (GX12_part_0_65 rc (LX12_part_0_18 rc n) 1 u12))))) else (gd (isB z3) (some (z3, u6))))) else (gd (isB z3) (some (z3, u))))
def GX12_part_0_17 (rc : Nat → Int32 → Int32 → SX → Option (Int32 × SX)) (y0 : Int32) (u : SX) : Option (Int32 × SX) := (LX12_part_0_18 rc  5000 y0 u)
def fX12_part_0 (rc : Nat → Int32 → Int32 → SX → Option (Int32 × SX)) (x1 : Int32) (x2 : Int32) (u : SX) : Option (Int32 × SX) := (if x1 = 0 then ((rc 2  0 0 u).bind fun q => match q with | (r1, u2) => (GX12_part_0_17 rc r1 u2)) else ((fX12_compares_0 1 x2 u).bind fun q => match q with | (r14, u15) => (GX12_part_0_17 rc r14 u15)))
set_option maxHeartbeats 4000000 in
set_option maxRecDepth 100000 in
theorem wGX12_part_0_65 {p : Program} {l : Launch} {e : Env} {s : State} {m : MethodId} {args : Array Value} {below : List Frame} {meth : Method} {c : Code} {D : va_G} {cy : Nat → ClassId} {ad st : Nat → Nat} (C : Cx RX12 cX12_part 5 (some .boolean) wsX12_part p s m args meth c) (hK : Ky D [(cy 0, .int), (cy 1, .long), (cy 2, .boolean), (cy 3, .byte), (cy 4, .object "HissHorn$Text")] st s) (hJ : JM ad st) {rc : Nat → Int32 → Int32 → SX → Option (Int32 × SX)} {dd : Nat} (hrc : hRX12conditiong l D cy ad st rc dd) {r : Int32} {u' : SX} {k18 : Int32 → SX → Option (Int32 × SX)} (hk18 : ∀ (z3 : Int32) (u : SX) (H : Heap) (locs : List Loc) (ls : Array Slot), k18 z3 u = some (r, u') → va_P D vwCl (VM cy ad st u) H → va_S (Ax (AM ad) s.heap.size) s.heap H locs → lv_has ls 5 [(0, .ref (ad 0)), (3, .int z3)] → W p l e (rmX12conditiong (dd + 1)) s m args below meth c H locs 0 0 (MQ below (Qi D (VM cy ad st) (AM ad) s.heap.size r u') args s 0 0 (Ax (AM ad) s.heap.size)) (F0 m 18 ls [])) (y0 : Int32) (u : SX) (H : Heap) (locs : List Loc) (ls : Array Slot) (h : GX12_part_0_65 rc k18 y0 u = some (r, u')) (hP : va_P D vwCl (VM cy ad st u) H) (hS : va_S (Ax (AM ad) s.heap.size) s.heap H locs) (hl : lv_has ls 5 [(0, .ref (ad 0))]) : W p l e (rmX12conditiong (dd + 1)) s m args below meth c H locs 0 0 (MQ below (Qi D (VM cy ad st) (AM ad) s.heap.size r u') args s 0 0 (Ax (AM ad) s.heap.size)) (F0 m 65 ls [.int y0]) := by
  unfold GX12_part_0_65 at h
  refine lv_istore_n (lv' := [(3, .int y0), (0, .ref (ad 0))]) C.1 C.2.1 dX12_part_65 rfl hl (by decide) rfl (fun ls hl => ?_)
  replace hl := lv_sub (l' := [(0, .ref (ad 0)), (3, .int y0)]) hl [1, 0] rfl
  refine lv_goto (tgt := 18) C.1 C.2.1 dX12_part_66 (by decide) ?_
  exact hk18 _ _ _ _ _ h hP hS hl
set_option maxHeartbeats 4000000 in
set_option maxRecDepth 100000 in
theorem wGX12_part_0_64 {p : Program} {l : Launch} {e : Env} {s : State} {m : MethodId} {args : Array Value} {below : List Frame} {meth : Method} {c : Code} {D : va_G} {cy : Nat → ClassId} {ad st : Nat → Nat} (C : Cx RX12 cX12_part 5 (some .boolean) wsX12_part p s m args meth c) (hK : Ky D [(cy 0, .int), (cy 1, .long), (cy 2, .boolean), (cy 3, .byte), (cy 4, .object "HissHorn$Text")] st s) (hJ : JM ad st) {rc : Nat → Int32 → Int32 → SX → Option (Int32 × SX)} {dd : Nat} (hrc : hRX12conditiong l D cy ad st rc dd) {r : Int32} {u' : SX} {k18 : Int32 → SX → Option (Int32 × SX)} (hk18 : ∀ (z3 : Int32) (u : SX) (H : Heap) (locs : List Loc) (ls : Array Slot), k18 z3 u = some (r, u') → va_P D vwCl (VM cy ad st u) H → va_S (Ax (AM ad) s.heap.size) s.heap H locs → lv_has ls 5 [(0, .ref (ad 0)), (3, .int z3)] → W p l e (rmX12conditiong (dd + 1)) s m args below meth c H locs 0 0 (MQ below (Qi D (VM cy ad st) (AM ad) s.heap.size r u') args s 0 0 (Ax (AM ad) s.heap.size)) (F0 m 18 ls [])) (u : SX) (H : Heap) (locs : List Loc) (ls : Array Slot) (h : GX12_part_0_64 rc k18  u = some (r, u')) (hP : va_P D vwCl (VM cy ad st u) H) (hS : va_S (Ax (AM ad) s.heap.size) s.heap H locs) (hl : lv_has ls 5 [(0, .ref (ad 0))]) : W p l e (rmX12conditiong (dd + 1)) s m args below meth c H locs 0 0 (MQ below (Qi D (VM cy ad st) (AM ad) s.heap.size r u') args s 0 0 (Ax (AM ad) s.heap.size)) (F0 m 64 ls []) := by
  unfold GX12_part_0_64 at h
  refine lv_iconst (v := 0) C.1 C.2.1 dX12_part_64 (by decide) ?_
  exact wGX12_part_0_65 C hK hJ hrc hk18 _ _ _ _ _ h hP hS hl
set_option maxHeartbeats 4000000 in
set_option maxRecDepth 100000 in
theorem wLX12_part_0_18 {p : Program} {l : Launch} {e : Env} {s : State} {m : MethodId} {args : Array Value} {below : List Frame} {meth : Method} {c : Code} {D : va_G} {cy : Nat → ClassId} {ad st : Nat → Nat} (C : Cx RX12 cX12_part 5 (some .boolean) wsX12_part p s m args meth c) (hK : Ky D [(cy 0, .int), (cy 1, .long), (cy 2, .boolean), (cy 3, .byte), (cy 4, .object "HissHorn$Text")] st s) (hJ : JM ad st) {rc : Nat → Int32 → Int32 → SX → Option (Int32 × SX)} {dd : Nat} (hrc : hRX12conditiong l D cy ad st rc dd) {r : Int32} {u' : SX}   : ∀ (n : Nat) (z3 : Int32) (u : SX) (H : Heap) (locs : List Loc) (ls : Array Slot), LX12_part_0_18 rc  n z3 u = some (r, u') → va_P D vwCl (VM cy ad st u) H → va_S (Ax (AM ad) s.heap.size) s.heap H locs → lv_has ls 5 [(0, .ref (ad 0)), (3, .int z3)] → W p l e (rmX12conditiong (dd + 1)) s m args below meth c H locs 0 0 (MQ below (Qi D (VM cy ad st) (AM ad) s.heap.size r u') args s 0 0 (Ax (AM ad) s.heap.size)) (F0 m 18 ls []) := by
  intro n
  induction n with
  | zero =>
    intro z3 u H locs ls h
    exact absurd h (by intro q; cases q)
  | succ n ih =>
    intro z3 u H locs ls h hP hS hl
    rw [LX12_part_0_18] at h
    refine lv_aload_n C.1 C.2.1 dX12_part_18 rfl (lv_at hl 0 rfl) ?_
    refine gM_0_fault C hX12_part_0_X12 hK hP mX12_part_0_1 dX12_part_19 ?_
    refine lv_iconst (v := (-1)) C.1 C.2.1 dX12_part_22 (by decide) ?_
    refine lv_icmp_ne (tgt := 69) C.1 C.2.1 dX12_part_23 (by decide) (fun c23 => ?_) (fun c23 => ?_)
    · rw [if_neg c23] at h
      refine lv_iload_n C.1 C.2.1 dX12_part_69 rfl (lv_at hl 1 rfl) ?_
      obtain ⟨hg4, h⟩ := gd_some h
      cases h
      exact rt_z hg4 C hP hS dX12_part_70
    · rw [if_pos c23] at h
      refine lv_aload_n C.1 C.2.1 dX12_part_26 rfl (lv_at hl 0 rfl) ?_
      obtain ⟨⟨r5, u6⟩, hc7, h⟩ := bd_some h
      try dsimp only at h
      refine cg_i (As := []) (rest := []) (AM_ge hJ) C hK hP hS (metX12_look_0 l D cy ad st hJ _  hc7) (cwV 0 C.2.2.2.2.2.1 gX12_part_X12_look rfl rfl rfl (by decide +kernel) ⟨(Nat.le_trans (m := 70) (Nat.le_of_ble_eq_true rfl) (rmX12conditiong_f _)), (Nat.le_trans (m := 4236) (Nat.le_of_ble_eq_true rfl) (rmX12conditiong_l _))⟩) 0 12 rfl rfl rfl hl.1 rfl (Nat.le_of_ble_eq_true rfl) dX12_part_27 ⟨Nat.zero_le _, Nat.zero_le _⟩ (fun H locs hP hS => ?_)
      refine lv_bipush (v := 38) C.1 C.2.1 dX12_part_30 (by decide) ?_
      refine lv_icmp_ne (tgt := 69) C.1 C.2.1 dX12_part_32 (by decide) (fun c32 => ?_) (fun c32 => ?_)
      · rw [if_neg c32] at h
        refine lv_iload_n C.1 C.2.1 dX12_part_69 rfl (lv_at hl 1 rfl) ?_
        obtain ⟨hg8, h⟩ := gd_some h
        cases h
        exact rt_z hg8 C hP hS dX12_part_70
      · rw [if_pos c32] at h
        refine lv_aload_n C.1 C.2.1 dX12_part_35 rfl (lv_at hl 0 rfl) ?_
        refine lv_dup C.1 C.2.1 dX12_part_36 rfl ?_
        refine gM_0_at C hX12_part_0_X12 hK hP mX12_part_0_2 dX12_part_37 ?_
        refine lv_iconst (v := 1) C.1 C.2.1 dX12_part_40 (by decide) ?_
        refine lv_iadd C.1 C.2.1 dX12_part_41 ?_
        refine pM_0_at C hX12_part_0_X12 hK hP hJ hS mX12_part_0_2 dX12_part_42 (fun H locs hP hS => ?_)
        obtain ⟨u9, hu10, h⟩ := lt_some h
        rw [← hu10] at hP
        refine lv_aload_n C.1 C.2.1 dX12_part_45 rfl (lv_at hl 0 rfl) ?_
        obtain ⟨⟨r11, u12⟩, hc13, h⟩ := bd_some h
        try dsimp only at h
        refine cg_i (As := []) (rest := []) (AM_ge hJ) C hK hP hS (hrc.2.2 _  _ _ _ hc13) (cwV 0 C.2.2.2.2.2.1 gX12_part_X12_unit rfl rfl rfl (by decide +kernel) ⟨rmX12conditiong_sf dd, rmX12conditiong_sl dd (k := 8 + (3 + 11)) (Nat.le_of_ble_eq_true rfl)⟩) 0 12 rfl rfl rfl hl.1 rfl (Nat.le_of_ble_eq_true rfl) dX12_part_46 ⟨Nat.zero_le _, Nat.zero_le _⟩ (fun H locs hP hS => ?_)
        refine lv_istore (lv' := [(4, .int r11), (0, .ref (ad 0)), (3, .int z3)]) C.1 C.2.1 dX12_part_49 hl (by decide) rfl (fun ls hl => ?_)
        replace hl := lv_sub (l' := [(0, .ref (ad 0)), (3, .int z3), (4, .int r11)]) hl [1, 2, 0] rfl
        refine lv_iload_n C.1 C.2.1 dX12_part_51 rfl (lv_at hl 1 rfl) ?_
        refine lv_if_eq (tgt := 64) C.1 C.2.1 dX12_part_52 (by decide) (fun c52 => ?_) (fun c52 => ?_)
        · rw [if_pos c52] at h
          exact wGX12_part_0_64 C hK hJ hrc ih _ _ _ _ h hP hS (lv_sub hl [0] rfl)
        · rw [if_neg c52] at h
          refine lv_iload C.1 C.2.1 dX12_part_55 (lv_at hl 2 rfl) ?_
          refine lv_if_eq (tgt := 64) C.1 C.2.1 dX12_part_57 (by decide) (fun c57 => ?_) (fun c57 => ?_)
          · rw [if_pos c57] at h
            exact wGX12_part_0_64 C hK hJ hrc ih _ _ _ _ h hP hS (lv_sub hl [0] rfl)
          · rw [if_neg c57] at h
            refine lv_iconst (v := 1) C.1 C.2.1 dX12_part_60 (by decide) ?_
            refine lv_goto (tgt := 65) C.1 C.2.1 dX12_part_61 (by decide) ?_
            exact wGX12_part_0_65 C hK hJ hrc ih _ _ _ _ _ h hP hS (lv_sub hl [0] rfl)
set_option maxHeartbeats 4000000 in
set_option maxRecDepth 100000 in
theorem wGX12_part_0_17 {p : Program} {l : Launch} {e : Env} {s : State} {m : MethodId} {args : Array Value} {below : List Frame} {meth : Method} {c : Code} {D : va_G} {cy : Nat → ClassId} {ad st : Nat → Nat} (C : Cx RX12 cX12_part 5 (some .boolean) wsX12_part p s m args meth c) (hK : Ky D [(cy 0, .int), (cy 1, .long), (cy 2, .boolean), (cy 3, .byte), (cy 4, .object "HissHorn$Text")] st s) (hJ : JM ad st) {rc : Nat → Int32 → Int32 → SX → Option (Int32 × SX)} {dd : Nat} (hrc : hRX12conditiong l D cy ad st rc dd) {r : Int32} {u' : SX}   (y0 : Int32) (u : SX) (H : Heap) (locs : List Loc) (ls : Array Slot) (h : GX12_part_0_17 rc y0 u = some (r, u')) (hP : va_P D vwCl (VM cy ad st u) H) (hS : va_S (Ax (AM ad) s.heap.size) s.heap H locs) (hl : lv_has ls 5 [(0, .ref (ad 0))]) : W p l e (rmX12conditiong (dd + 1)) s m args below meth c H locs 0 0 (MQ below (Qi D (VM cy ad st) (AM ad) s.heap.size r u') args s 0 0 (Ax (AM ad) s.heap.size)) (F0 m 17 ls [.int y0]) := by
  unfold GX12_part_0_17 at h
  refine lv_istore_n (lv' := [(3, .int y0), (0, .ref (ad 0))]) C.1 C.2.1 dX12_part_17 rfl hl (by decide) rfl (fun ls hl => ?_)
  replace hl := lv_sub (l' := [(0, .ref (ad 0)), (3, .int y0)]) hl [1, 0] rfl
  exact wLX12_part_0_18 C hK hJ hrc  5000 _ _ _ _ _ h hP hS hl
set_option maxHeartbeats 4000000 in
set_option maxRecDepth 100000 in
theorem wX12_part_0 {p : Program} {l : Launch} {e : Env} {s : State} {m : MethodId} {args : Array Value} {below : List Frame} {meth : Method} {c : Code} {D : va_G} {cy : Nat → ClassId} {ad st : Nat → Nat} (C : Cx RX12 cX12_part 5 (some .boolean) wsX12_part p s m args meth c) (hK : Ky D [(cy 0, .int), (cy 1, .long), (cy 2, .boolean), (cy 3, .byte), (cy 4, .object "HissHorn$Text")] st s) (hJ : JM ad st) {rc : Nat → Int32 → Int32 → SX → Option (Int32 × SX)} {dd : Nat} (hrc : hRX12conditiong l D cy ad st rc dd) (x1 : Int32) (x2 : Int32) {u : SX} {r : Int32} {u' : SX} {H : Heap} {locs : List Loc} {ls : Array Slot} (h : fX12_part_0 rc x1 x2 u = some (r, u')) (hP : va_P D vwCl (VM cy ad st u) H) (hS : va_S (Ax (AM ad) s.heap.size) s.heap H locs) (hl : lv_has ls 5 [(0, .ref (ad 0)), (1, .int x1), (2, .int x2)]) : W p l e (rmX12conditiong (dd + 1)) s m args below meth c H locs 0 0 (MQ below (Qi D (VM cy ad st) (AM ad) s.heap.size r u') args s 0 0 (Ax (AM ad) s.heap.size)) (F0 m 0 ls []) := by
  unfold fX12_part_0 at h
  refine lv_iload_n C.1 C.2.1 dX12_part_0 rfl (lv_at hl 1 rfl) ?_
  refine lv_if_eq (tgt := 13) C.1 C.2.1 dX12_part_1 (by decide) (fun c1 => ?_) (fun c1 => ?_)
  · rw [if_pos c1] at h
    refine lv_aload_n C.1 C.2.1 dX12_part_13 rfl (lv_at hl 0 rfl) ?_
    obtain ⟨⟨r1, u2⟩, hc3, h⟩ := bd_some h
    try dsimp only at h
    refine cg_i (As := []) (rest := []) (AM_ge hJ) C hK hP hS (hrc.2.2 _  _ _ _ hc3) (cwV 0 C.2.2.2.2.2.1 gX12_part_X12_unit rfl rfl rfl (by decide +kernel) ⟨rmX12conditiong_sf dd, rmX12conditiong_sl dd (k := 8 + (3 + 11)) (Nat.le_of_ble_eq_true rfl)⟩) 0 12 rfl rfl rfl hl.1 rfl (Nat.le_of_ble_eq_true rfl) dX12_part_14 ⟨Nat.zero_le _, Nat.zero_le _⟩ (fun H locs hP hS => ?_)
    exact wGX12_part_0_17 C hK hJ hrc _ _ _ _ _ h hP hS (lv_sub hl [0] rfl)
  · rw [if_neg c1] at h
    refine lv_aload_n C.1 C.2.1 dX12_part_4 rfl (lv_at hl 0 rfl) ?_
    refine lv_iconst (v := 1) C.1 C.2.1 dX12_part_5 (by decide) ?_
    refine lv_iload_n C.1 C.2.1 dX12_part_6 rfl (lv_at hl 2 rfl) ?_
    obtain ⟨⟨r14, u15⟩, hc16, h⟩ := bd_some h
    try dsimp only at h
    refine cg_i (As := [.int 1, .int x2]) (rest := []) (AM_ge hJ) C hK hP hS (metX12_compares_0 l D cy ad st hJ _ 1 x2 hc16) (cwV 2 C.2.2.2.2.2.1 gX12_part_X12_compares rfl rfl rfl (by decide +kernel) ⟨(Nat.le_trans (m := 70) (Nat.le_of_ble_eq_true rfl) (rmX12conditiong_f _)), (Nat.le_trans (m := 4236) (Nat.le_of_ble_eq_true rfl) (rmX12conditiong_l _))⟩) 0 12 rfl rfl rfl hl.1 rfl (Nat.le_of_ble_eq_true rfl) dX12_part_7 ⟨Nat.zero_le _, Nat.zero_le _⟩ (fun H locs hP hS => ?_)
    refine lv_goto (tgt := 17) C.1 C.2.1 dX12_part_10 (by decide) ?_
    exact wGX12_part_0_17 C hK hJ hrc _ _ _ _ _ h hP hS (lv_sub hl [0] rfl)
theorem metX12_part_0 (l : Launch) (D : va_G) (cy : Nat → ClassId) (ad st : Nat → Nat) (hJ : JM ad st) {rc : Nat → Int32 → Int32 → SX → Option (Int32 × SX)} {dd : Nat} (hrc : hRX12conditiong l D cy ad st rc dd) (sz : Nat) (x1 : Int32) (x2 : Int32) {u : SX} {r : Int32} {u' : SX} (h : fX12_part_0 rc x1 x2 u = some (r, u')) : Met l yX12_part wsX12_part (rmX12conditiong (dd + 1)) (va_Pc [.ref (ad 0), .int x1, .int x2] (Px D [(cy 0, .int), (cy 1, .long), (cy 2, .boolean), (cy 3, .byte), (cy 4, .object "HissHorn$Text")] st (VM cy ad st) sz u)) (Qi D (VM cy ad st) (AM ad) sz r u') 0 0 (Ax (AM ad) sz) := by
  refine Met.ofW (cc := cX12_part) (maxL := 5) (ret := (some .boolean)) (by decide) rfl ?_
  intro p e s m args below meth c s₁ B hml hv
  obtain ⟨rfl, hsz, hP, hK⟩ := hv
  subst hsz
  have C : Cx RX12 cX12_part 5 (some .boolean) wsX12_part p s m _ meth c := ⟨B.exec, B.bytes, hml, B.returns, findClass_of_methodNamed B.named, atoms_spec (ws := wsX12_part) B.pre, B.notSynchronized⟩
  have hl := lv_entry ([.ref (ad 0), .int x1, .int x2]) (n := 5) (Nat.le_of_ble_eq_true rfl)
  rw [lg_entry_eq]
  exact wX12_part_0 C hK hJ hrc x1 x2 h hP va_S.rf hl

theorem zdX12_unit_0 : (and (and (and (and (and (zk cX12_unit 0 (.aload_n 0) 1) (zk cX12_unit 1 (.invokevirtual 192) 3)) (and (zk cX12_unit 4 (.istore_n 1) 1) (zk cX12_unit 5 (.iload_n 1) 1))) (and (and (zk cX12_unit 6 (.bipush 33) 2) (zk cX12_unit 8 (.if_icmp .ne 37) 3)) (and (zk cX12_unit 45 (.iload_n 1) 1) (zk cX12_unit 46 (.bipush 40) 2)))) (and (and (and (zk cX12_unit 48 (.if_icmp .ne 42) 3) (zk cX12_unit 90 (.aload_n 0) 1)) (and (zk cX12_unit 91 (.iconst 0) 1) (zk cX12_unit 92 (.iconst 0) 1))) (and (and (zk cX12_unit 93 (.invokevirtual 247) 3) (zk cX12_unit 96 (.ireturn) 1)) (and (zk cX12_unit 51 (.aload_n 0) 1) (zk cX12_unit 52 (.invokevirtual 214) 3))))) (and (and (and (and (zk cX12_unit 55 (.ifCond .ne 5) 3) (zk cX12_unit 60 (.aload_n 0) 1)) (and (zk cX12_unit 61 (.iconst 0) 1) (zk cX12_unit 62 (.iconst 0) 1))) (and (and (zk cX12_unit 63 (.invokevirtual 243) 3) (zk cX12_unit 66 (.istore_n 2) 1)) (and (zk cX12_unit 67 (.aload_n 0) 1) (zk cX12_unit 68 (.bipush 41) 2)))) (and (and (and (zk cX12_unit 70 (.invokevirtual 220) 3) (zk cX12_unit 73 (.ifCond .ne 5) 3)) (and (zk cX12_unit 78 (.aload_n 0) 1) (zk cX12_unit 79 (.dup) 1))) (and (and (zk cX12_unit 80 (.getfield 185) 3) (zk cX12_unit 83 (.iconst 1) 1)) (and (zk cX12_unit 84 (.isub) 1) (zk cX12_unit 85 (.putfield 185) 3)))))) = true := by decide +kernel
theorem dX12_unit_0 : decode cX12_unit 0 = .ok (.aload_n 0, 1) := zk_of (zk_l (zk_l (zk_l (zk_l (zk_l zdX12_unit_0)))))
theorem dX12_unit_1 : decode cX12_unit 1 = .ok (.invokevirtual 192, 3) := zk_of (zk_r (zk_l (zk_l (zk_l (zk_l zdX12_unit_0)))))
theorem dX12_unit_4 : decode cX12_unit 4 = .ok (.istore_n 1, 1) := zk_of (zk_l (zk_r (zk_l (zk_l (zk_l zdX12_unit_0)))))
theorem dX12_unit_5 : decode cX12_unit 5 = .ok (.iload_n 1, 1) := zk_of (zk_r (zk_r (zk_l (zk_l (zk_l zdX12_unit_0)))))
theorem dX12_unit_6 : decode cX12_unit 6 = .ok (.bipush 33, 2) := zk_of (zk_l (zk_l (zk_r (zk_l (zk_l zdX12_unit_0)))))
theorem dX12_unit_8 : decode cX12_unit 8 = .ok (.if_icmp .ne 37, 3) := zk_of (zk_r (zk_l (zk_r (zk_l (zk_l zdX12_unit_0)))))
theorem dX12_unit_45 : decode cX12_unit 45 = .ok (.iload_n 1, 1) := zk_of (zk_l (zk_r (zk_r (zk_l (zk_l zdX12_unit_0)))))
theorem dX12_unit_46 : decode cX12_unit 46 = .ok (.bipush 40, 2) := zk_of (zk_r (zk_r (zk_r (zk_l (zk_l zdX12_unit_0)))))
theorem dX12_unit_48 : decode cX12_unit 48 = .ok (.if_icmp .ne 42, 3) := zk_of (zk_l (zk_l (zk_l (zk_r (zk_l zdX12_unit_0)))))
theorem dX12_unit_90 : decode cX12_unit 90 = .ok (.aload_n 0, 1) := zk_of (zk_r (zk_l (zk_l (zk_r (zk_l zdX12_unit_0)))))
theorem dX12_unit_91 : decode cX12_unit 91 = .ok (.iconst 0, 1) := zk_of (zk_l (zk_r (zk_l (zk_r (zk_l zdX12_unit_0)))))
theorem dX12_unit_92 : decode cX12_unit 92 = .ok (.iconst 0, 1) := zk_of (zk_r (zk_r (zk_l (zk_r (zk_l zdX12_unit_0)))))
theorem dX12_unit_93 : decode cX12_unit 93 = .ok (.invokevirtual 247, 3) := zk_of (zk_l (zk_l (zk_r (zk_r (zk_l zdX12_unit_0)))))
theorem dX12_unit_96 : decode cX12_unit 96 = .ok (.ireturn, 1) := zk_of (zk_r (zk_l (zk_r (zk_r (zk_l zdX12_unit_0)))))
theorem dX12_unit_51 : decode cX12_unit 51 = .ok (.aload_n 0, 1) := zk_of (zk_l (zk_r (zk_r (zk_r (zk_l zdX12_unit_0)))))
theorem dX12_unit_52 : decode cX12_unit 52 = .ok (.invokevirtual 214, 3) := zk_of (zk_r (zk_r (zk_r (zk_r (zk_l zdX12_unit_0)))))
theorem dX12_unit_55 : decode cX12_unit 55 = .ok (.ifCond .ne 5, 3) := zk_of (zk_l (zk_l (zk_l (zk_l (zk_r zdX12_unit_0)))))
theorem dX12_unit_60 : decode cX12_unit 60 = .ok (.aload_n 0, 1) := zk_of (zk_r (zk_l (zk_l (zk_l (zk_r zdX12_unit_0)))))
theorem dX12_unit_61 : decode cX12_unit 61 = .ok (.iconst 0, 1) := zk_of (zk_l (zk_r (zk_l (zk_l (zk_r zdX12_unit_0)))))
theorem dX12_unit_62 : decode cX12_unit 62 = .ok (.iconst 0, 1) := zk_of (zk_r (zk_r (zk_l (zk_l (zk_r zdX12_unit_0)))))
theorem dX12_unit_63 : decode cX12_unit 63 = .ok (.invokevirtual 243, 3) := zk_of (zk_l (zk_l (zk_r (zk_l (zk_r zdX12_unit_0)))))
theorem dX12_unit_66 : decode cX12_unit 66 = .ok (.istore_n 2, 1) := zk_of (zk_r (zk_l (zk_r (zk_l (zk_r zdX12_unit_0)))))
theorem dX12_unit_67 : decode cX12_unit 67 = .ok (.aload_n 0, 1) := zk_of (zk_l (zk_r (zk_r (zk_l (zk_r zdX12_unit_0)))))
theorem dX12_unit_68 : decode cX12_unit 68 = .ok (.bipush 41, 2) := zk_of (zk_r (zk_r (zk_r (zk_l (zk_r zdX12_unit_0)))))
theorem dX12_unit_70 : decode cX12_unit 70 = .ok (.invokevirtual 220, 3) := zk_of (zk_l (zk_l (zk_l (zk_r (zk_r zdX12_unit_0)))))
theorem dX12_unit_73 : decode cX12_unit 73 = .ok (.ifCond .ne 5, 3) := zk_of (zk_r (zk_l (zk_l (zk_r (zk_r zdX12_unit_0)))))
theorem dX12_unit_78 : decode cX12_unit 78 = .ok (.aload_n 0, 1) := zk_of (zk_l (zk_r (zk_l (zk_r (zk_r zdX12_unit_0)))))
theorem dX12_unit_79 : decode cX12_unit 79 = .ok (.dup, 1) := zk_of (zk_r (zk_r (zk_l (zk_r (zk_r zdX12_unit_0)))))
theorem dX12_unit_80 : decode cX12_unit 80 = .ok (.getfield 185, 3) := zk_of (zk_l (zk_l (zk_r (zk_r (zk_r zdX12_unit_0)))))
theorem dX12_unit_83 : decode cX12_unit 83 = .ok (.iconst 1, 1) := zk_of (zk_r (zk_l (zk_r (zk_r (zk_r zdX12_unit_0)))))
theorem dX12_unit_84 : decode cX12_unit 84 = .ok (.isub, 1) := zk_of (zk_l (zk_r (zk_r (zk_r (zk_r zdX12_unit_0)))))
theorem dX12_unit_85 : decode cX12_unit 85 = .ok (.putfield 185, 3) := zk_of (zk_r (zk_r (zk_r (zk_r (zk_r zdX12_unit_0)))))
set_option maxRecDepth 20000 in
theorem ggX12_unit_X12_look : GoodIn wsX12_unit wsX12_look := goodIn_r _ [6, 7, 8, 9, 10, 160, 161, 162, 163, 164, 165, 166, 167, 168, 169, 170, 171, 172, 173, 174, 175, 176, 177, 178, 179, 180, 181, 182, 183, 184, 185, 186, 187, 188, 189, 190, 191, 192, 193, 194, 195, 196, 197, 198, 199, 200, 201, 202, 203, 204, 205, 206, 207, 208, 209, 210, 211, 212, 213, 214, 215, 216, 217, 218, 219, 220, 221, 222, 223, 224, 225, 226, 227, 228] rfl (by decide +kernel)
set_option maxRecDepth 20000 in
theorem gX12_unit_X12_look : GoodIn wsX12_unit (wsV RX12 192 RX12 yX12_look wsX12_look) := goodIn_app (goodIn_of _ (by decide +kernel)) ggX12_unit_X12_look
set_option maxRecDepth 20000 in
theorem ggX12_unit_X12_compares : GoodIn wsX12_unit wsX12_compares := goodIn_r _ [33, 19, 7, 34, 35, 36, 5, 37, 38, 39, 40, 2, 3, 4, 6, 8, 9, 10, 41, 42, 43, 44, 45, 46, 47, 48, 49, 50, 51, 52, 53, 54, 55, 1, 56, 57, 58, 59, 60, 61, 62, 63, 64, 65, 66, 67, 68, 69, 70, 71, 72, 73, 74, 75, 76, 77, 78, 79, 80, 81, 82, 83, 84, 85, 86, 87, 88, 89, 90, 91, 92, 93, 94, 95, 96, 97, 98, 99, 100, 101, 102, 103, 104, 105, 106, 107, 108, 109, 110, 111, 112, 113, 114, 115, 116, 117, 118, 119, 120, 121, 122, 123, 124, 125, 126, 127, 128, 129, 130, 131, 132, 133, 134, 135, 136, 137, 138, 139, 140, 141, 142, 143, 11, 12, 13, 14, 15, 16, 17, 18, 26, 27, 28, 29, 144, 145, 146, 147, 148, 149, 150, 151, 152, 153, 154, 160, 161, 162, 163, 164, 165, 166, 167, 168, 169, 170, 171, 172, 173, 174, 175, 176, 177, 178, 179, 180, 181, 182, 183, 184, 185, 186, 187, 188, 189, 190, 191, 192, 193, 194, 195, 196, 197, 198, 199, 200, 201, 202, 203, 204, 205, 206, 207, 208, 209, 210, 211, 212, 213, 214, 215, 216, 217, 218, 219, 220, 221, 222, 223, 224, 225, 226, 227, 228] rfl (by decide +kernel)
set_option maxRecDepth 20000 in
theorem gX12_unit_X12_compares : GoodIn wsX12_unit (wsV RX12 247 RX12 yX12_compares wsX12_compares) := goodIn_app (goodIn_of _ (by decide +kernel)) ggX12_unit_X12_compares
set_option maxRecDepth 20000 in
theorem ggX12_unit_X12_goesIn : GoodIn wsX12_unit wsX12_goesIn := goodIn_r _ [14, 1, 7, 15, 16, 17, 5, 18, 19, 160, 161, 162, 163, 164, 165, 166, 167, 168, 169, 170, 171, 172, 173, 174, 175, 176, 177, 178, 179, 180, 181, 182, 183, 184, 185, 186, 187, 188, 189, 190, 191, 192, 193, 194, 195, 196, 197, 198, 199, 200, 201, 202, 203, 204, 205, 206, 207, 208, 209, 210, 211, 212, 213, 214, 215, 216, 217, 218, 219, 220, 221, 222, 223, 224, 225, 226, 227, 228] rfl (by decide +kernel)
set_option maxRecDepth 20000 in
theorem gX12_unit_X12_goesIn : GoodIn wsX12_unit (wsV RX12 214 RX12 yX12_goesIn wsX12_goesIn) := goodIn_app (goodIn_of _ (by decide +kernel)) ggX12_unit_X12_goesIn
set_option maxRecDepth 20000 in
theorem ggX12_unit_X12_condition : GoodIn wsX12_unit wsX12_condition := goodIn_r _ [155, 19, 7, 156, 157, 158, 5, 2, 3, 4, 6, 8, 9, 10, 159, 30, 31, 32, 33, 34, 35, 36, 37, 38, 39, 40, 41, 42, 43, 44, 45, 46, 47, 48, 49, 50, 51, 52, 53, 54, 55, 1, 56, 57, 58, 59, 60, 61, 62, 63, 64, 65, 66, 67, 68, 69, 70, 71, 72, 73, 74, 75, 76, 77, 78, 79, 80, 81, 82, 83, 84, 85, 86, 87, 88, 89, 90, 91, 92, 93, 94, 95, 96, 97, 98, 99, 100, 101, 102, 103, 104, 105, 106, 107, 108, 109, 110, 111, 112, 113, 114, 115, 116, 117, 118, 119, 120, 121, 122, 123, 124, 125, 126, 127, 128, 129, 130, 131, 132, 133, 134, 135, 136, 137, 138, 139, 140, 141, 142, 143, 11, 12, 13, 14, 15, 16, 17, 18, 26, 27, 28, 29, 144, 145, 146, 147, 148, 149, 150, 151, 152, 153, 154, 20, 21, 22, 0, 23, 24, 25, 160, 161, 162, 163, 164, 165, 166, 167, 168, 169, 170, 171, 172, 173, 174, 175, 176, 177, 178, 179, 180, 181, 182, 183, 184, 185, 186, 187, 188, 189, 190, 191, 192, 193, 194, 195, 196, 197, 198, 199, 200, 201, 202, 203, 204, 205, 206, 207, 208, 209, 210, 211, 212, 213, 214, 215, 216, 217, 218, 219, 220, 221, 222, 223, 224, 225, 226, 227, 228] rfl (by decide +kernel)
set_option maxRecDepth 20000 in
theorem gX12_unit_X12_condition : GoodIn wsX12_unit (wsV RX12 243 RX12 yX12_condition wsX12_condition) := goodIn_app (goodIn_of _ (by decide +kernel)) ggX12_unit_X12_condition
set_option maxRecDepth 20000 in
theorem ggX12_unit_X12_takes : GoodIn wsX12_unit wsX12_takes := goodIn_r _ [29, 19, 7, 2, 3, 4, 5, 6, 8, 9, 10, 15, 16, 17, 18, 160, 161, 162, 163, 164, 165, 166, 167, 168, 169, 170, 171, 172, 173, 174, 175, 176, 177, 178, 179, 180, 181, 182, 183, 184, 185, 186, 187, 188, 189, 190, 191, 192, 193, 194, 195, 196, 197, 198, 199, 200, 201, 202, 203, 204, 205, 206, 207, 208, 209, 210, 211, 212, 213, 214, 215, 216, 217, 218, 219, 220, 221, 222, 223, 224, 225, 226, 227, 228] rfl (by decide +kernel)
set_option maxRecDepth 20000 in
theorem gX12_unit_X12_takes : GoodIn wsX12_unit (wsV RX12 220 RX12 yX12_takes wsX12_takes) := goodIn_app (goodIn_of _ (by decide +kernel)) ggX12_unit_X12_takes
theorem zdX12_unit_88 : (and (and (and (and (and (zk cX12_unit 88 (.iload_n 2) 1) (zk cX12_unit 89 (.ireturn) 1)) (and (zk cX12_unit 76 (.iconst 0) 1) (zk cX12_unit 77 (.ireturn) 1))) (and (and (zk cX12_unit 58 (.iconst 0) 1) (zk cX12_unit 59 (.ireturn) 1)) (zk cX12_unit 11 (.aload_n 0) 1))) (and (and (and (zk cX12_unit 12 (.invokevirtual 214) 3) (zk cX12_unit 15 (.ifCond .ne 5) 3)) (zk cX12_unit 20 (.aload_n 0) 1)) (and (and (zk cX12_unit 21 (.invokevirtual 240) 3) (zk cX12_unit 24 (.istore_n 2) 1)) (zk cX12_unit 25 (.aload_n 0) 1)))) (and (and (and (and (zk cX12_unit 26 (.dup) 1) (zk cX12_unit 27 (.getfield 185) 3)) (and (zk cX12_unit 30 (.iconst 1) 1) (zk cX12_unit 31 (.isub) 1))) (and (and (zk cX12_unit 32 (.putfield 185) 3) (zk cX12_unit 35 (.iload_n 2) 1)) (zk cX12_unit 36 (.ifCond .ne 7) 3))) (and (and (and (zk cX12_unit 43 (.iconst 0) 1) (zk cX12_unit 44 (.ireturn) 1)) (zk cX12_unit 39 (.iconst 1) 1)) (and (and (zk cX12_unit 40 (.goto 4) 3) (zk cX12_unit 18 (.iconst 0) 1)) (zk cX12_unit 19 (.ireturn) 1))))) = true := by decide +kernel
theorem dX12_unit_88 : decode cX12_unit 88 = .ok (.iload_n 2, 1) := zk_of (zk_l (zk_l (zk_l (zk_l (zk_l zdX12_unit_88)))))
theorem dX12_unit_89 : decode cX12_unit 89 = .ok (.ireturn, 1) := zk_of (zk_r (zk_l (zk_l (zk_l (zk_l zdX12_unit_88)))))
theorem dX12_unit_76 : decode cX12_unit 76 = .ok (.iconst 0, 1) := zk_of (zk_l (zk_r (zk_l (zk_l (zk_l zdX12_unit_88)))))
theorem dX12_unit_77 : decode cX12_unit 77 = .ok (.ireturn, 1) := zk_of (zk_r (zk_r (zk_l (zk_l (zk_l zdX12_unit_88)))))
theorem dX12_unit_58 : decode cX12_unit 58 = .ok (.iconst 0, 1) := zk_of (zk_l (zk_l (zk_r (zk_l (zk_l zdX12_unit_88)))))
theorem dX12_unit_59 : decode cX12_unit 59 = .ok (.ireturn, 1) := zk_of (zk_r (zk_l (zk_r (zk_l (zk_l zdX12_unit_88)))))
theorem dX12_unit_11 : decode cX12_unit 11 = .ok (.aload_n 0, 1) := zk_of (zk_r (zk_r (zk_l (zk_l zdX12_unit_88))))
theorem dX12_unit_12 : decode cX12_unit 12 = .ok (.invokevirtual 214, 3) := zk_of (zk_l (zk_l (zk_l (zk_r (zk_l zdX12_unit_88)))))
theorem dX12_unit_15 : decode cX12_unit 15 = .ok (.ifCond .ne 5, 3) := zk_of (zk_r (zk_l (zk_l (zk_r (zk_l zdX12_unit_88)))))
theorem dX12_unit_20 : decode cX12_unit 20 = .ok (.aload_n 0, 1) := zk_of (zk_r (zk_l (zk_r (zk_l zdX12_unit_88))))
theorem dX12_unit_21 : decode cX12_unit 21 = .ok (.invokevirtual 240, 3) := zk_of (zk_l (zk_l (zk_r (zk_r (zk_l zdX12_unit_88)))))
theorem dX12_unit_24 : decode cX12_unit 24 = .ok (.istore_n 2, 1) := zk_of (zk_r (zk_l (zk_r (zk_r (zk_l zdX12_unit_88)))))
theorem dX12_unit_25 : decode cX12_unit 25 = .ok (.aload_n 0, 1) := zk_of (zk_r (zk_r (zk_r (zk_l zdX12_unit_88))))
theorem dX12_unit_26 : decode cX12_unit 26 = .ok (.dup, 1) := zk_of (zk_l (zk_l (zk_l (zk_l (zk_r zdX12_unit_88)))))
theorem dX12_unit_27 : decode cX12_unit 27 = .ok (.getfield 185, 3) := zk_of (zk_r (zk_l (zk_l (zk_l (zk_r zdX12_unit_88)))))
theorem dX12_unit_30 : decode cX12_unit 30 = .ok (.iconst 1, 1) := zk_of (zk_l (zk_r (zk_l (zk_l (zk_r zdX12_unit_88)))))
theorem dX12_unit_31 : decode cX12_unit 31 = .ok (.isub, 1) := zk_of (zk_r (zk_r (zk_l (zk_l (zk_r zdX12_unit_88)))))
theorem dX12_unit_32 : decode cX12_unit 32 = .ok (.putfield 185, 3) := zk_of (zk_l (zk_l (zk_r (zk_l (zk_r zdX12_unit_88)))))
theorem dX12_unit_35 : decode cX12_unit 35 = .ok (.iload_n 2, 1) := zk_of (zk_r (zk_l (zk_r (zk_l (zk_r zdX12_unit_88)))))
theorem dX12_unit_36 : decode cX12_unit 36 = .ok (.ifCond .ne 7, 3) := zk_of (zk_r (zk_r (zk_l (zk_r zdX12_unit_88))))
theorem dX12_unit_43 : decode cX12_unit 43 = .ok (.iconst 0, 1) := zk_of (zk_l (zk_l (zk_l (zk_r (zk_r zdX12_unit_88)))))
theorem dX12_unit_44 : decode cX12_unit 44 = .ok (.ireturn, 1) := zk_of (zk_r (zk_l (zk_l (zk_r (zk_r zdX12_unit_88)))))
theorem dX12_unit_39 : decode cX12_unit 39 = .ok (.iconst 1, 1) := zk_of (zk_r (zk_l (zk_r (zk_r zdX12_unit_88))))
theorem dX12_unit_40 : decode cX12_unit 40 = .ok (.goto 4, 3) := zk_of (zk_l (zk_l (zk_r (zk_r (zk_r zdX12_unit_88)))))
theorem dX12_unit_18 : decode cX12_unit 18 = .ok (.iconst 0, 1) := zk_of (zk_r (zk_l (zk_r (zk_r (zk_r zdX12_unit_88)))))
theorem dX12_unit_19 : decode cX12_unit 19 = .ok (.ireturn, 1) := zk_of (zk_r (zk_r (zk_r (zk_r zdX12_unit_88))))
set_option maxRecDepth 20000 in
theorem ggX12_unit_X12_unit : GoodIn wsX12_unit wsX12_unit := goodIn_r _ [0, 1, 2, 3, 4, 5, 6, 7, 8, 9, 10, 11, 12, 13, 14, 15, 16, 17, 18, 19, 20, 21, 22, 23, 24, 25, 26, 27, 28, 29, 30, 31, 32, 33, 34, 35, 36, 37, 38, 39, 40, 41, 42, 43, 44, 45, 46, 47, 48, 49, 50, 51, 52, 53, 54, 55, 56, 57, 58, 59, 60, 61, 62, 63, 64, 65, 66, 67, 68, 69, 70, 71, 72, 73, 74, 75, 76, 77, 78, 79, 80, 81, 82, 83, 84, 85, 86, 87, 88, 89, 90, 91, 92, 93, 94, 95, 96, 97, 98, 99, 100, 101, 102, 103, 104, 105, 106, 107, 108, 109, 110, 111, 112, 113, 114, 115, 116, 117, 118, 119, 120, 121, 122, 123, 124, 125, 126, 127, 128, 129, 130, 131, 132, 133, 134, 135, 136, 137, 138, 139, 140, 141, 142, 143, 144, 145, 146, 147, 148, 149, 150, 151, 152, 153, 154, 155, 156, 157, 158, 159, 160, 161, 162, 163, 164, 165, 166, 167, 168, 169, 170, 171, 172, 173, 174, 175, 176, 177, 178, 179, 180, 181, 182, 183, 184, 185, 186, 187, 188, 189, 190, 191, 192, 193, 194, 195, 196, 197, 198, 199, 200, 201, 202, 203, 204, 205, 206, 207, 208, 209, 210, 211, 212, 213, 214, 215, 216, 217, 218, 219, 220, 221, 222, 223, 224, 225, 226, 227, 228] rfl (by decide +kernel)
set_option maxRecDepth 20000 in
theorem gX12_unit_X12_unit : GoodIn wsX12_unit (wsV RX12 240 RX12 yX12_unit wsX12_unit) := goodIn_app (goodIn_of _ (by decide +kernel)) ggX12_unit_X12_unit
/-- HissHornModel.unit()Z of cell 0 -/
theorem hX12_unit_0_X12 : ∀ w ∈ u_ws RX12 TX12 69, w ∈ wsX12_unit := fun w h => (List.mem_cons_of_mem _ (List.mem_append_right _ h))
theorem mX12_unit_0_1 : Cond.fieldLink RX12 185 "HissHornModel" "deep" "I" ∈ wsX12_unit := (List.mem_cons_of_mem _ (List.mem_append_left _ (List.mem_append_left _ (List.mem_of_getElem? (i := 0) rfl))))
def fX12_unit_0 (rc : Nat → Int32 → Int32 → SX → Option (Int32 × SX))  (u : SX) : Option (Int32 × SX) := ((fX12_look_0  u).bind fun q => match q with | (r1, u2) => (if r1 = 33 then ((fX12_goesIn_0  u2).bind fun q => match q with | (r22, u23) => (if r22 = 0 then (gd (isB 0) (some (0, u23))) else ((rc 2  0 0 u23).bind fun q => match q with | (r25, u26) => (lt (sI u26 8 ((u26.1 8) - 1)) fun u28 => (if r25 = 0 then (gd (isB 1) (some (1, u28))) else (gd (isB 0) (some (0, u28)))))))) else (if r1 = 40 then ((fX12_goesIn_0  u2).bind fun q => match q with | (r8, u9) => (if r8 = 0 then (gd (isB 0) (some (0, u9))) else ((rc 0 0 0 u9).bind fun q => match q with | (r11, u12) => ((fX12_takes_0 41 u12).bind fun q => match q with | (r14, u15) => (if r14 = 0 then (gd (isB 0) (some (0, u15))) else (lt (sI u15 8 ((u15.1 8) - 1)) fun u17 => (gd (isB r11) (some (r11, u17))))))))) else ((fX12_compares_0 0 0 u2).bind fun q => match q with | (r4, u5) => (gd (isB r4) (some (r4, u5)))))))
set_option maxHeartbeats 4000000 in
set_option maxRecDepth 100000 in
theorem wX12_unit_0 {p : Program} {l : Launch} {e : Env} {s : State} {m : MethodId} {args : Array Value} {below : List Frame} {meth : Method} {c : Code} {D : va_G} {cy : Nat → ClassId} {ad st : Nat → Nat} (C : Cx RX12 cX12_unit 3 (some .boolean) wsX12_unit p s m args meth c) (hK : Ky D [(cy 0, .int), (cy 1, .long), (cy 2, .boolean), (cy 3, .byte), (cy 4, .object "HissHorn$Text")] st s) (hJ : JM ad st) {rc : Nat → Int32 → Int32 → SX → Option (Int32 × SX)} {dd : Nat} (hrc : hRX12conditiong l D cy ad st rc dd)  {u : SX} {r : Int32} {u' : SX} {H : Heap} {locs : List Loc} {ls : Array Slot} (h : fX12_unit_0 rc  u = some (r, u')) (hP : va_P D vwCl (VM cy ad st u) H) (hS : va_S (Ax (AM ad) s.heap.size) s.heap H locs) (hl : lv_has ls 3 [(0, .ref (ad 0))]) : W p l e (rmX12conditiong (dd + 1)) s m args below meth c H locs 0 0 (MQ below (Qi D (VM cy ad st) (AM ad) s.heap.size r u') args s 0 0 (Ax (AM ad) s.heap.size)) (F0 m 0 ls []) := by
  unfold fX12_unit_0 at h
  refine lv_aload_n C.1 C.2.1 dX12_unit_0 rfl (lv_at hl 0 rfl) ?_
  obtain ⟨⟨r1, u2⟩, hc3, h⟩ := bd_some h
  try dsimp only at h
  refine cg_i (As := []) (rest := []) (AM_ge hJ) C hK hP hS (metX12_look_0 l D cy ad st hJ _  hc3) (cwV 0 C.2.2.2.2.2.1 gX12_unit_X12_look rfl rfl rfl (by decide +kernel) ⟨(Nat.le_trans (m := 70) (Nat.le_of_ble_eq_true rfl) (rmX12conditiong_f _)), (Nat.le_trans (m := 4236) (Nat.le_of_ble_eq_true rfl) (rmX12conditiong_l _))⟩) 0 12 rfl rfl rfl hl.1 rfl (Nat.le_of_ble_eq_true rfl) dX12_unit_1 ⟨Nat.zero_le _, Nat.zero_le _⟩ (fun H locs hP hS => ?_)
  refine lv_istore_n (lv' := [(1, .int r1), (0, .ref (ad 0))]) C.1 C.2.1 dX12_unit_4 rfl hl (by decide) rfl (fun ls hl => ?_)
  replace hl := lv_sub (l' := [(0, .ref (ad 0)), (1, .int r1)]) hl [1, 0] rfl
  refine lv_iload_n C.1 C.2.1 dX12_unit_5 rfl (lv_at hl 1 rfl) ?_
  refine lv_bipush (v := 33) C.1 C.2.1 dX12_unit_6 (by decide) ?_
  refine lv_icmp_ne (tgt := 45) C.1 C.2.1 dX12_unit_8 (by decide) (fun c8 => ?_) (fun c8 => ?_)
  · rw [if_neg c8] at h
    refine lv_iload_n C.1 C.2.1 dX12_unit_45 rfl (lv_at hl 1 rfl) ?_
    refine lv_bipush (v := 40) C.1 C.2.1 dX12_unit_46 (by decide) ?_
    refine lv_icmp_ne (tgt := 90) C.1 C.2.1 dX12_unit_48 (by decide) (fun c48 => ?_) (fun c48 => ?_)
    · rw [if_neg c48] at h
      refine lv_aload_n C.1 C.2.1 dX12_unit_90 rfl (lv_at hl 0 rfl) ?_
      refine lv_iconst (v := 0) C.1 C.2.1 dX12_unit_91 (by decide) ?_
      refine lv_iconst (v := 0) C.1 C.2.1 dX12_unit_92 (by decide) ?_
      obtain ⟨⟨r4, u5⟩, hc6, h⟩ := bd_some h
      try dsimp only at h
      refine cg_i (As := [.int 0, .int 0]) (rest := []) (AM_ge hJ) C hK hP hS (metX12_compares_0 l D cy ad st hJ _ 0 0 hc6) (cwV 2 C.2.2.2.2.2.1 gX12_unit_X12_compares rfl rfl rfl (by decide +kernel) ⟨(Nat.le_trans (m := 70) (Nat.le_of_ble_eq_true rfl) (rmX12conditiong_f _)), (Nat.le_trans (m := 4236) (Nat.le_of_ble_eq_true rfl) (rmX12conditiong_l _))⟩) 0 12 rfl rfl rfl hl.1 rfl (Nat.le_of_ble_eq_true rfl) dX12_unit_93 ⟨Nat.zero_le _, Nat.zero_le _⟩ (fun H locs hP hS => ?_)
      obtain ⟨hg7, h⟩ := gd_some h
      cases h
      exact rt_z hg7 C hP hS dX12_unit_96
    · rw [if_pos c48] at h
      refine lv_aload_n C.1 C.2.1 dX12_unit_51 rfl (lv_at hl 0 rfl) ?_
      obtain ⟨⟨r8, u9⟩, hc10, h⟩ := bd_some h
      try dsimp only at h
      refine cg_i (As := []) (rest := []) (AM_ge hJ) C hK hP hS (metX12_goesIn_0 l D cy ad st hJ _  hc10) (cwV 0 C.2.2.2.2.2.1 gX12_unit_X12_goesIn rfl rfl rfl (by decide +kernel) ⟨(Nat.le_trans (m := 70) (Nat.le_of_ble_eq_true rfl) (rmX12conditiong_f _)), (Nat.le_trans (m := 4236) (Nat.le_of_ble_eq_true rfl) (rmX12conditiong_l _))⟩) 0 12 rfl rfl rfl hl.1 rfl (Nat.le_of_ble_eq_true rfl) dX12_unit_52 ⟨Nat.zero_le _, Nat.zero_le _⟩ (fun H locs hP hS => ?_)
      refine lv_if_ne (tgt := 60) C.1 C.2.1 dX12_unit_55 (by decide) (fun c55 => ?_) (fun c55 => ?_)
      · rw [if_neg c55] at h
        refine lv_aload_n C.1 C.2.1 dX12_unit_60 rfl (lv_at hl 0 rfl) ?_
        refine lv_iconst (v := 0) C.1 C.2.1 dX12_unit_61 (by decide) ?_
        refine lv_iconst (v := 0) C.1 C.2.1 dX12_unit_62 (by decide) ?_
        obtain ⟨⟨r11, u12⟩, hc13, h⟩ := bd_some h
        try dsimp only at h
        refine cg_i (As := [.int 0, .int 0]) (rest := []) (AM_ge hJ) C hK hP hS (hrc.1 _ 0 0 _ _ _ hc13) (cwV 2 C.2.2.2.2.2.1 gX12_unit_X12_condition rfl rfl rfl (by decide +kernel) ⟨rmX12conditiong_sf dd, rmX12conditiong_sl dd (k := 8 + (5 + 11)) (Nat.le_of_ble_eq_true rfl)⟩) 0 12 rfl rfl rfl hl.1 rfl (Nat.le_of_ble_eq_true rfl) dX12_unit_63 ⟨Nat.zero_le _, Nat.zero_le _⟩ (fun H locs hP hS => ?_)
        refine lv_istore_n (lv' := [(2, .int r11), (0, .ref (ad 0)), (1, .int r1)]) C.1 C.2.1 dX12_unit_66 rfl hl (by decide) rfl (fun ls hl => ?_)
        replace hl := lv_sub (l' := [(0, .ref (ad 0)), (1, .int r1), (2, .int r11)]) hl [1, 2, 0] rfl
        refine lv_aload_n C.1 C.2.1 dX12_unit_67 rfl (lv_at hl 0 rfl) ?_
        refine lv_bipush (v := 41) C.1 C.2.1 dX12_unit_68 (by decide) ?_
        obtain ⟨⟨r14, u15⟩, hc16, h⟩ := bd_some h
        try dsimp only at h
        refine cg_i (As := [.int 41]) (rest := []) (AM_ge hJ) C hK hP hS (metX12_takes_0 l D cy ad st hJ _ 41 hc16) (cwV 1 C.2.2.2.2.2.1 gX12_unit_X12_takes rfl rfl rfl (by decide +kernel) ⟨(Nat.le_trans (m := 70) (Nat.le_of_ble_eq_true rfl) (rmX12conditiong_f _)), (Nat.le_trans (m := 4236) (Nat.le_of_ble_eq_true rfl) (rmX12conditiong_l _))⟩) 0 12 rfl rfl rfl hl.1 rfl (Nat.le_of_ble_eq_true rfl) dX12_unit_70 ⟨Nat.zero_le _, Nat.zero_le _⟩ (fun H locs hP hS => ?_)
        refine lv_if_ne (tgt := 78) C.1 C.2.1 dX12_unit_73 (by decide) (fun c73 => ?_) (fun c73 => ?_)
        · rw [if_neg c73] at h
          refine lv_aload_n C.1 C.2.1 dX12_unit_78 rfl (lv_at hl 0 rfl) ?_
          refine lv_dup C.1 C.2.1 dX12_unit_79 rfl ?_
          refine gM_0_deep C hX12_unit_0_X12 hK hP mX12_unit_0_1 dX12_unit_80 ?_
          refine lv_iconst (v := 1) C.1 C.2.1 dX12_unit_83 (by decide) ?_
          refine lv_isub C.1 C.2.1 dX12_unit_84 ?_
          refine pM_0_deep C hX12_unit_0_X12 hK hP hJ hS mX12_unit_0_1 dX12_unit_85 (fun H locs hP hS => ?_)
          obtain ⟨u17, hu18, h⟩ := lt_some h
          rw [← hu18] at hP
          refine lv_iload_n C.1 C.2.1 dX12_unit_88 rfl (lv_at hl 2 rfl) ?_
          obtain ⟨hg19, h⟩ := gd_some h
          cases h
          exact rt_z hg19 C hP hS dX12_unit_89
        · rw [if_pos c73] at h
          refine lv_iconst (v := 0) C.1 C.2.1 dX12_unit_76 (by decide) ?_
          obtain ⟨hg20, h⟩ := gd_some h
          cases h
          exact rt_z hg20 C hP hS dX12_unit_77
      · rw [if_pos c55] at h
        refine lv_iconst (v := 0) C.1 C.2.1 dX12_unit_58 (by decide) ?_
        obtain ⟨hg21, h⟩ := gd_some h
        cases h
        exact rt_z hg21 C hP hS dX12_unit_59
  · rw [if_pos c8] at h
    refine lv_aload_n C.1 C.2.1 dX12_unit_11 rfl (lv_at hl 0 rfl) ?_
    obtain ⟨⟨r22, u23⟩, hc24, h⟩ := bd_some h
    try dsimp only at h
    refine cg_i (As := []) (rest := []) (AM_ge hJ) C hK hP hS (metX12_goesIn_0 l D cy ad st hJ _  hc24) (cwV 0 C.2.2.2.2.2.1 gX12_unit_X12_goesIn rfl rfl rfl (by decide +kernel) ⟨(Nat.le_trans (m := 70) (Nat.le_of_ble_eq_true rfl) (rmX12conditiong_f _)), (Nat.le_trans (m := 4236) (Nat.le_of_ble_eq_true rfl) (rmX12conditiong_l _))⟩) 0 12 rfl rfl rfl hl.1 rfl (Nat.le_of_ble_eq_true rfl) dX12_unit_12 ⟨Nat.zero_le _, Nat.zero_le _⟩ (fun H locs hP hS => ?_)
    refine lv_if_ne (tgt := 20) C.1 C.2.1 dX12_unit_15 (by decide) (fun c15 => ?_) (fun c15 => ?_)
    · rw [if_neg c15] at h
      refine lv_aload_n C.1 C.2.1 dX12_unit_20 rfl (lv_at hl 0 rfl) ?_
      obtain ⟨⟨r25, u26⟩, hc27, h⟩ := bd_some h
      try dsimp only at h
      refine cg_i (As := []) (rest := []) (AM_ge hJ) C hK hP hS (hrc.2.2 _  _ _ _ hc27) (cwV 0 C.2.2.2.2.2.1 gX12_unit_X12_unit rfl rfl rfl (by decide +kernel) ⟨rmX12conditiong_sf dd, rmX12conditiong_sl dd (k := 8 + (3 + 11)) (Nat.le_of_ble_eq_true rfl)⟩) 0 12 rfl rfl rfl hl.1 rfl (Nat.le_of_ble_eq_true rfl) dX12_unit_21 ⟨Nat.zero_le _, Nat.zero_le _⟩ (fun H locs hP hS => ?_)
      refine lv_istore_n (lv' := [(2, .int r25), (0, .ref (ad 0)), (1, .int r1)]) C.1 C.2.1 dX12_unit_24 rfl hl (by decide) rfl (fun ls hl => ?_)
      replace hl := lv_sub (l' := [(0, .ref (ad 0)), (1, .int r1), (2, .int r25)]) hl [1, 2, 0] rfl
      refine lv_aload_n C.1 C.2.1 dX12_unit_25 rfl (lv_at hl 0 rfl) ?_
      refine lv_dup C.1 C.2.1 dX12_unit_26 rfl ?_
      refine gM_0_deep C hX12_unit_0_X12 hK hP mX12_unit_0_1 dX12_unit_27 ?_
      refine lv_iconst (v := 1) C.1 C.2.1 dX12_unit_30 (by decide) ?_
      refine lv_isub C.1 C.2.1 dX12_unit_31 ?_
      refine pM_0_deep C hX12_unit_0_X12 hK hP hJ hS mX12_unit_0_1 dX12_unit_32 (fun H locs hP hS => ?_)
      obtain ⟨u28, hu29, h⟩ := lt_some h
      rw [← hu29] at hP
      refine lv_iload_n C.1 C.2.1 dX12_unit_35 rfl (lv_at hl 2 rfl) ?_
      refine lv_if_ne (tgt := 43) C.1 C.2.1 dX12_unit_36 (by decide) (fun c36 => ?_) (fun c36 => ?_)
      · rw [if_neg c36] at h
        refine lv_iconst (v := 0) C.1 C.2.1 dX12_unit_43 (by decide) ?_
        obtain ⟨hg30, h⟩ := gd_some h
        cases h
        exact rt_z hg30 C hP hS dX12_unit_44
      · rw [if_pos c36] at h
        refine lv_iconst (v := 1) C.1 C.2.1 dX12_unit_39 (by decide) ?_
        refine lv_goto (tgt := 44) C.1 C.2.1 dX12_unit_40 (by decide) ?_
        obtain ⟨hg31, h⟩ := gd_some h
        cases h
        exact rt_z hg31 C hP hS dX12_unit_44
    · rw [if_pos c15] at h
      refine lv_iconst (v := 0) C.1 C.2.1 dX12_unit_18 (by decide) ?_
      obtain ⟨hg32, h⟩ := gd_some h
      cases h
      exact rt_z hg32 C hP hS dX12_unit_19
theorem metX12_unit_0 (l : Launch) (D : va_G) (cy : Nat → ClassId) (ad st : Nat → Nat) (hJ : JM ad st) {rc : Nat → Int32 → Int32 → SX → Option (Int32 × SX)} {dd : Nat} (hrc : hRX12conditiong l D cy ad st rc dd) (sz : Nat)  {u : SX} {r : Int32} {u' : SX} (h : fX12_unit_0 rc  u = some (r, u')) : Met l yX12_unit wsX12_unit (rmX12conditiong (dd + 1)) (va_Pc [.ref (ad 0)] (Px D [(cy 0, .int), (cy 1, .long), (cy 2, .boolean), (cy 3, .byte), (cy 4, .object "HissHorn$Text")] st (VM cy ad st) sz u)) (Qi D (VM cy ad st) (AM ad) sz r u') 0 0 (Ax (AM ad) sz) := by
  refine Met.ofW (cc := cX12_unit) (maxL := 3) (ret := (some .boolean)) (by decide) rfl ?_
  intro p e s m args below meth c s₁ B hml hv
  obtain ⟨rfl, hsz, hP, hK⟩ := hv
  subst hsz
  have C : Cx RX12 cX12_unit 3 (some .boolean) wsX12_unit p s m _ meth c := ⟨B.exec, B.bytes, hml, B.returns, findClass_of_methodNamed B.named, atoms_spec (ws := wsX12_unit) B.pre, B.notSynchronized⟩
  have hl := lv_entry ([.ref (ad 0)]) (n := 3) (Nat.le_of_ble_eq_true rfl)
  rw [lg_entry_eq]
  exact wX12_unit_0 C hK hJ hrc h hP va_S.rf hl

def rX12conditiong : Nat → Nat → Int32 → Int32 → SX → Option (Int32 × SX)
  | 0, _, _, _, _ => none
  | d + 1, t, a0, a1, u => (if t = 0 then fX12_condition_0 (rX12conditiong d) a0 a1 u else (if t = 1 then fX12_part_0 (rX12conditiong d) a0 a1 u else (if t = 2 then fX12_unit_0 (rX12conditiong d)  u else none)))
theorem hRX12conditiong_all (l : Launch) (D : va_G) (cy : Nat → ClassId) (ad st : Nat → Nat) (hJ : JM ad st) : ∀ d, hRX12conditiong l D cy ad st (rX12conditiong d) d := by
  intro d
  induction d with
  | zero =>
    refine ⟨?_, ?_, ?_⟩
    · intro sz x1 x2 u r u' h
      exact absurd h (by intro q; cases q)
    · intro sz x1 x2 u r u' h
      exact absurd h (by intro q; cases q)
    · intro sz  u r u' h
      exact absurd h (by intro q; cases q)
  | succ d ih =>
    refine ⟨?_, ?_, ?_⟩
    · intro sz x1 x2 u r u' h
      rw [rX12conditiong] at h
      rw [if_pos rfl] at h
      exact metX12_condition_0 l D cy ad st hJ ih sz x1 x2 h
    · intro sz x1 x2 u r u' h
      rw [rX12conditiong] at h
      rw [if_neg (by decide)] at h; rw [if_pos rfl] at h
      exact metX12_part_0 l D cy ad st hJ ih sz x1 x2 h
    · intro sz  u r u' h
      rw [rX12conditiong] at h
      rw [if_neg (by decide)] at h; rw [if_neg (by decide)] at h; rw [if_pos rfl] at h
      exact metX12_unit_0 l D cy ad st hJ ih sz  h

theorem zdX12_clause_131 : (and (and (and (and (and (zk cX12_clause 131 (.aload_n 0) 1) (zk cX12_clause 132 (.getfield 182) 3)) (and (zk cX12_clause 135 (.iconst (-1)) 1) (zk cX12_clause 136 (.if_icmp .ne 14) 3))) (and (and (zk cX12_clause 150 (.return_) 1) (zk cX12_clause 139 (.aload_n 0) 1)) (and (zk cX12_clause 140 (.getfield 253) 3) (zk cX12_clause 143 (.ifCond .ne 7) 3)))) (and (and (and (zk cX12_clause 146 (.iload_n 2) 1) (zk cX12_clause 147 (.ifCond .ne 4) 3)) (and (zk cX12_clause 151 (.aload_n 0) 1) (zk cX12_clause 152 (.iconst 1) 1))) (and (and (zk cX12_clause 153 (.putfield 253) 3) (zk cX12_clause 156 (.aload_n 0) 1)) (and (zk cX12_clause 157 (.iload_n 3) 1) (zk cX12_clause 158 (.putfield 257) 3))))) (and (and (and (and (zk cX12_clause 161 (.return_) 1) (zk cX12_clause 61 (.aload_n 0) 1)) (and (zk cX12_clause 62 (.iconst 0) 1) (zk cX12_clause 63 (.iconst 0) 1))) (and (and (zk cX12_clause 64 (.invokevirtual 243) 3) (zk cX12_clause 67 (.istore_n 2) 1)) (and (zk cX12_clause 68 (.aload_n 0) 1) (zk cX12_clause 69 (.bipush 63) 2)))) (and (and (and (zk cX12_clause 71 (.invokevirtual 220) 3) (zk cX12_clause 74 (.ifCond .ne 4) 3)) (and (zk cX12_clause 78 (.aload_n 0) 1) (zk cX12_clause 79 (.invokevirtual 217) 3))) (and (and (zk cX12_clause 82 (.istore_n 3) 1) (zk cX12_clause 83 (.goto 48) 3)) (and (zk cX12_clause 77 (.return_) 1) (zk cX12_clause 0 (.aload_n 0) 1)))))) = true := by decide +kernel
theorem dX12_clause_131 : decode cX12_clause 131 = .ok (.aload_n 0, 1) := zk_of (zk_l (zk_l (zk_l (zk_l (zk_l zdX12_clause_131)))))
theorem dX12_clause_132 : decode cX12_clause 132 = .ok (.getfield 182, 3) := zk_of (zk_r (zk_l (zk_l (zk_l (zk_l zdX12_clause_131)))))
theorem dX12_clause_135 : decode cX12_clause 135 = .ok (.iconst (-1), 1) := zk_of (zk_l (zk_r (zk_l (zk_l (zk_l zdX12_clause_131)))))
theorem dX12_clause_136 : decode cX12_clause 136 = .ok (.if_icmp .ne 14, 3) := zk_of (zk_r (zk_r (zk_l (zk_l (zk_l zdX12_clause_131)))))
theorem dX12_clause_150 : decode cX12_clause 150 = .ok (.return_, 1) := zk_of (zk_l (zk_l (zk_r (zk_l (zk_l zdX12_clause_131)))))
theorem dX12_clause_139 : decode cX12_clause 139 = .ok (.aload_n 0, 1) := zk_of (zk_r (zk_l (zk_r (zk_l (zk_l zdX12_clause_131)))))
theorem dX12_clause_140 : decode cX12_clause 140 = .ok (.getfield 253, 3) := zk_of (zk_l (zk_r (zk_r (zk_l (zk_l zdX12_clause_131)))))
theorem dX12_clause_143 : decode cX12_clause 143 = .ok (.ifCond .ne 7, 3) := zk_of (zk_r (zk_r (zk_r (zk_l (zk_l zdX12_clause_131)))))
theorem dX12_clause_146 : decode cX12_clause 146 = .ok (.iload_n 2, 1) := zk_of (zk_l (zk_l (zk_l (zk_r (zk_l zdX12_clause_131)))))
theorem dX12_clause_147 : decode cX12_clause 147 = .ok (.ifCond .ne 4, 3) := zk_of (zk_r (zk_l (zk_l (zk_r (zk_l zdX12_clause_131)))))
theorem dX12_clause_151 : decode cX12_clause 151 = .ok (.aload_n 0, 1) := zk_of (zk_l (zk_r (zk_l (zk_r (zk_l zdX12_clause_131)))))
theorem dX12_clause_152 : decode cX12_clause 152 = .ok (.iconst 1, 1) := zk_of (zk_r (zk_r (zk_l (zk_r (zk_l zdX12_clause_131)))))
theorem dX12_clause_153 : decode cX12_clause 153 = .ok (.putfield 253, 3) := zk_of (zk_l (zk_l (zk_r (zk_r (zk_l zdX12_clause_131)))))
theorem dX12_clause_156 : decode cX12_clause 156 = .ok (.aload_n 0, 1) := zk_of (zk_r (zk_l (zk_r (zk_r (zk_l zdX12_clause_131)))))
theorem dX12_clause_157 : decode cX12_clause 157 = .ok (.iload_n 3, 1) := zk_of (zk_l (zk_r (zk_r (zk_r (zk_l zdX12_clause_131)))))
theorem dX12_clause_158 : decode cX12_clause 158 = .ok (.putfield 257, 3) := zk_of (zk_r (zk_r (zk_r (zk_r (zk_l zdX12_clause_131)))))
theorem dX12_clause_161 : decode cX12_clause 161 = .ok (.return_, 1) := zk_of (zk_l (zk_l (zk_l (zk_l (zk_r zdX12_clause_131)))))
theorem dX12_clause_61 : decode cX12_clause 61 = .ok (.aload_n 0, 1) := zk_of (zk_r (zk_l (zk_l (zk_l (zk_r zdX12_clause_131)))))
theorem dX12_clause_62 : decode cX12_clause 62 = .ok (.iconst 0, 1) := zk_of (zk_l (zk_r (zk_l (zk_l (zk_r zdX12_clause_131)))))
theorem dX12_clause_63 : decode cX12_clause 63 = .ok (.iconst 0, 1) := zk_of (zk_r (zk_r (zk_l (zk_l (zk_r zdX12_clause_131)))))
theorem dX12_clause_64 : decode cX12_clause 64 = .ok (.invokevirtual 243, 3) := zk_of (zk_l (zk_l (zk_r (zk_l (zk_r zdX12_clause_131)))))
theorem dX12_clause_67 : decode cX12_clause 67 = .ok (.istore_n 2, 1) := zk_of (zk_r (zk_l (zk_r (zk_l (zk_r zdX12_clause_131)))))
theorem dX12_clause_68 : decode cX12_clause 68 = .ok (.aload_n 0, 1) := zk_of (zk_l (zk_r (zk_r (zk_l (zk_r zdX12_clause_131)))))
theorem dX12_clause_69 : decode cX12_clause 69 = .ok (.bipush 63, 2) := zk_of (zk_r (zk_r (zk_r (zk_l (zk_r zdX12_clause_131)))))
theorem dX12_clause_71 : decode cX12_clause 71 = .ok (.invokevirtual 220, 3) := zk_of (zk_l (zk_l (zk_l (zk_r (zk_r zdX12_clause_131)))))
theorem dX12_clause_74 : decode cX12_clause 74 = .ok (.ifCond .ne 4, 3) := zk_of (zk_r (zk_l (zk_l (zk_r (zk_r zdX12_clause_131)))))
theorem dX12_clause_78 : decode cX12_clause 78 = .ok (.aload_n 0, 1) := zk_of (zk_l (zk_r (zk_l (zk_r (zk_r zdX12_clause_131)))))
theorem dX12_clause_79 : decode cX12_clause 79 = .ok (.invokevirtual 217, 3) := zk_of (zk_r (zk_r (zk_l (zk_r (zk_r zdX12_clause_131)))))
theorem dX12_clause_82 : decode cX12_clause 82 = .ok (.istore_n 3, 1) := zk_of (zk_l (zk_l (zk_r (zk_r (zk_r zdX12_clause_131)))))
theorem dX12_clause_83 : decode cX12_clause 83 = .ok (.goto 48, 3) := zk_of (zk_r (zk_l (zk_r (zk_r (zk_r zdX12_clause_131)))))
theorem dX12_clause_77 : decode cX12_clause 77 = .ok (.return_, 1) := zk_of (zk_l (zk_r (zk_r (zk_r (zk_r zdX12_clause_131)))))
theorem dX12_clause_0 : decode cX12_clause 0 = .ok (.aload_n 0, 1) := zk_of (zk_r (zk_r (zk_r (zk_r (zk_r zdX12_clause_131)))))
set_option maxRecDepth 20000 in
theorem ggX12_clause_X12_condition : GoodIn wsX12_clause wsX12_condition := ggi (fun w h => List.mem_cons_of_mem _ (List.mem_append_left _ (List.mem_append_right _ (List.mem_append_left _ h)))) gs_X12_condition
set_option maxRecDepth 20000 in
theorem gX12_clause_X12_condition : GoodIn wsX12_clause (wsV RX12 243 RX12 yX12_condition wsX12_condition) := goodIn_app (goodIn_of _ (by decide +kernel)) ggX12_clause_X12_condition
set_option maxRecDepth 20000 in
theorem ggX12_clause_X12_takes : GoodIn wsX12_clause wsX12_takes := ggi (fun w h => List.mem_cons_of_mem _ (List.mem_append_left _ (List.mem_append_right _ (List.mem_append_right _ (List.mem_append_left _ h))))) gs_X12_takes
set_option maxRecDepth 20000 in
theorem gX12_clause_X12_takes : GoodIn wsX12_clause (wsV RX12 220 RX12 yX12_takes wsX12_takes) := goodIn_app (goodIn_of _ (by decide +kernel)) ggX12_clause_X12_takes
set_option maxRecDepth 20000 in
theorem ggX12_clause_X12_sum : GoodIn wsX12_clause wsX12_sum := ggi (fun w h => List.mem_cons_of_mem _ (List.mem_append_left _ (List.mem_append_right _ (List.mem_append_right _ (List.mem_append_right _ (List.mem_append_left _ h)))))) gs_X12_sum
set_option maxRecDepth 20000 in
theorem gX12_clause_X12_sum : GoodIn wsX12_clause (wsV RX12 217 RX12 yX12_sum wsX12_sum) := goodIn_app (goodIn_of _ (by decide +kernel)) ggX12_clause_X12_sum
set_option maxRecDepth 20000 in
theorem ggX12_clause_X12_look : GoodIn wsX12_clause wsX12_look := ggi (fun w h => List.mem_cons_of_mem _ (List.mem_append_left _ (List.mem_append_right _ (List.mem_append_right _ (List.mem_append_right _ (List.mem_append_right _ (List.mem_append_left _ h))))))) gs_X12_look
set_option maxRecDepth 20000 in
theorem gX12_clause_X12_look : GoodIn wsX12_clause (wsV RX12 192 RX12 yX12_look wsX12_look) := goodIn_app (goodIn_of _ (by decide +kernel)) ggX12_clause_X12_look
theorem zdX12_clause_1 : (and (and (and (and (and (zk cX12_clause 1 (.invokevirtual 192) 3) (zk cX12_clause 4 (.istore_n 1) 1)) (and (zk cX12_clause 5 (.iload_n 1) 1) (zk cX12_clause 6 (.bipush 121) 2))) (and (and (zk cX12_clause 8 (.if_icmp .eq 9) 3) (zk cX12_clause 17 (.aload_n 0) 1)) (and (zk cX12_clause 18 (.dup) 1) (zk cX12_clause 19 (.getfield 173) 3)))) (and (and (and (zk cX12_clause 22 (.iconst 1) 1) (zk cX12_clause 23 (.iadd) 1)) (and (zk cX12_clause 24 (.putfield 173) 3) (zk cX12_clause 27 (.aload_n 0) 1))) (and (and (zk cX12_clause 28 (.bipush 58) 2) (zk cX12_clause 30 (.invokevirtual 220) 3)) (and (zk cX12_clause 33 (.ifCond .ne 4) 3) (zk cX12_clause 37 (.iconst 1) 1))))) (and (and (and (and (zk cX12_clause 38 (.istore_n 2) 1) (zk cX12_clause 39 (.iconst 0) 1)) (and (zk cX12_clause 40 (.istore_n 3) 1) (zk cX12_clause 41 (.aload_n 0) 1))) (and (and (zk cX12_clause 42 (.invokevirtual 192) 3) (zk cX12_clause 45 (.istore 4) 2)) (and (zk cX12_clause 47 (.iload 4) 2) (zk cX12_clause 49 (.bipush 33) 2)))) (and (and (and (zk cX12_clause 51 (.if_icmp .eq 10) 3) (zk cX12_clause 54 (.iload 4) 2)) (and (zk cX12_clause 56 (.bipush 40) 2) (zk cX12_clause 58 (.if_icmp .ne 28) 3))) (and (and (zk cX12_clause 86 (.aload_n 0) 1) (zk cX12_clause 87 (.invokevirtual 217) 3)) (and (zk cX12_clause 90 (.istore_n 3) 1) (zk cX12_clause 91 (.aload_n 0) 1)))))) = true := by decide +kernel
theorem dX12_clause_1 : decode cX12_clause 1 = .ok (.invokevirtual 192, 3) := zk_of (zk_l (zk_l (zk_l (zk_l (zk_l zdX12_clause_1)))))
theorem dX12_clause_4 : decode cX12_clause 4 = .ok (.istore_n 1, 1) := zk_of (zk_r (zk_l (zk_l (zk_l (zk_l zdX12_clause_1)))))
theorem dX12_clause_5 : decode cX12_clause 5 = .ok (.iload_n 1, 1) := zk_of (zk_l (zk_r (zk_l (zk_l (zk_l zdX12_clause_1)))))
theorem dX12_clause_6 : decode cX12_clause 6 = .ok (.bipush 121, 2) := zk_of (zk_r (zk_r (zk_l (zk_l (zk_l zdX12_clause_1)))))
theorem dX12_clause_8 : decode cX12_clause 8 = .ok (.if_icmp .eq 9, 3) := zk_of (zk_l (zk_l (zk_r (zk_l (zk_l zdX12_clause_1)))))
theorem dX12_clause_17 : decode cX12_clause 17 = .ok (.aload_n 0, 1) := zk_of (zk_r (zk_l (zk_r (zk_l (zk_l zdX12_clause_1)))))
theorem dX12_clause_18 : decode cX12_clause 18 = .ok (.dup, 1) := zk_of (zk_l (zk_r (zk_r (zk_l (zk_l zdX12_clause_1)))))
theorem dX12_clause_19 : decode cX12_clause 19 = .ok (.getfield 173, 3) := zk_of (zk_r (zk_r (zk_r (zk_l (zk_l zdX12_clause_1)))))
theorem dX12_clause_22 : decode cX12_clause 22 = .ok (.iconst 1, 1) := zk_of (zk_l (zk_l (zk_l (zk_r (zk_l zdX12_clause_1)))))
theorem dX12_clause_23 : decode cX12_clause 23 = .ok (.iadd, 1) := zk_of (zk_r (zk_l (zk_l (zk_r (zk_l zdX12_clause_1)))))
theorem dX12_clause_24 : decode cX12_clause 24 = .ok (.putfield 173, 3) := zk_of (zk_l (zk_r (zk_l (zk_r (zk_l zdX12_clause_1)))))
theorem dX12_clause_27 : decode cX12_clause 27 = .ok (.aload_n 0, 1) := zk_of (zk_r (zk_r (zk_l (zk_r (zk_l zdX12_clause_1)))))
theorem dX12_clause_28 : decode cX12_clause 28 = .ok (.bipush 58, 2) := zk_of (zk_l (zk_l (zk_r (zk_r (zk_l zdX12_clause_1)))))
theorem dX12_clause_30 : decode cX12_clause 30 = .ok (.invokevirtual 220, 3) := zk_of (zk_r (zk_l (zk_r (zk_r (zk_l zdX12_clause_1)))))
theorem dX12_clause_33 : decode cX12_clause 33 = .ok (.ifCond .ne 4, 3) := zk_of (zk_l (zk_r (zk_r (zk_r (zk_l zdX12_clause_1)))))
theorem dX12_clause_37 : decode cX12_clause 37 = .ok (.iconst 1, 1) := zk_of (zk_r (zk_r (zk_r (zk_r (zk_l zdX12_clause_1)))))
theorem dX12_clause_38 : decode cX12_clause 38 = .ok (.istore_n 2, 1) := zk_of (zk_l (zk_l (zk_l (zk_l (zk_r zdX12_clause_1)))))
theorem dX12_clause_39 : decode cX12_clause 39 = .ok (.iconst 0, 1) := zk_of (zk_r (zk_l (zk_l (zk_l (zk_r zdX12_clause_1)))))
theorem dX12_clause_40 : decode cX12_clause 40 = .ok (.istore_n 3, 1) := zk_of (zk_l (zk_r (zk_l (zk_l (zk_r zdX12_clause_1)))))
theorem dX12_clause_41 : decode cX12_clause 41 = .ok (.aload_n 0, 1) := zk_of (zk_r (zk_r (zk_l (zk_l (zk_r zdX12_clause_1)))))
theorem dX12_clause_42 : decode cX12_clause 42 = .ok (.invokevirtual 192, 3) := zk_of (zk_l (zk_l (zk_r (zk_l (zk_r zdX12_clause_1)))))
theorem dX12_clause_45 : decode cX12_clause 45 = .ok (.istore 4, 2) := zk_of (zk_r (zk_l (zk_r (zk_l (zk_r zdX12_clause_1)))))
theorem dX12_clause_47 : decode cX12_clause 47 = .ok (.iload 4, 2) := zk_of (zk_l (zk_r (zk_r (zk_l (zk_r zdX12_clause_1)))))
theorem dX12_clause_49 : decode cX12_clause 49 = .ok (.bipush 33, 2) := zk_of (zk_r (zk_r (zk_r (zk_l (zk_r zdX12_clause_1)))))
theorem dX12_clause_51 : decode cX12_clause 51 = .ok (.if_icmp .eq 10, 3) := zk_of (zk_l (zk_l (zk_l (zk_r (zk_r zdX12_clause_1)))))
theorem dX12_clause_54 : decode cX12_clause 54 = .ok (.iload 4, 2) := zk_of (zk_r (zk_l (zk_l (zk_r (zk_r zdX12_clause_1)))))
theorem dX12_clause_56 : decode cX12_clause 56 = .ok (.bipush 40, 2) := zk_of (zk_l (zk_r (zk_l (zk_r (zk_r zdX12_clause_1)))))
theorem dX12_clause_58 : decode cX12_clause 58 = .ok (.if_icmp .ne 28, 3) := zk_of (zk_r (zk_r (zk_l (zk_r (zk_r zdX12_clause_1)))))
theorem dX12_clause_86 : decode cX12_clause 86 = .ok (.aload_n 0, 1) := zk_of (zk_l (zk_l (zk_r (zk_r (zk_r zdX12_clause_1)))))
theorem dX12_clause_87 : decode cX12_clause 87 = .ok (.invokevirtual 217, 3) := zk_of (zk_r (zk_l (zk_r (zk_r (zk_r zdX12_clause_1)))))
theorem dX12_clause_90 : decode cX12_clause 90 = .ok (.istore_n 3, 1) := zk_of (zk_l (zk_r (zk_r (zk_r (zk_r zdX12_clause_1)))))
theorem dX12_clause_91 : decode cX12_clause 91 = .ok (.aload_n 0, 1) := zk_of (zk_r (zk_r (zk_r (zk_r (zk_r zdX12_clause_1)))))
theorem zdX12_clause_92 : (and (and (and (and (and (zk cX12_clause 92 (.getfield 182) 3) (zk cX12_clause 95 (.iconst (-1)) 1)) (and (zk cX12_clause 96 (.if_icmp .ne 35) 3) (zk cX12_clause 99 (.aload_n 0) 1))) (and (and (zk cX12_clause 100 (.invokevirtual 192) 3) (zk cX12_clause 103 (.invokestatic 237) 3)) (zk cX12_clause 106 (.ifCond .eq 25) 3))) (and (and (and (zk cX12_clause 109 (.aload_n 0) 1) (zk cX12_clause 110 (.iconst 1) 1)) (zk cX12_clause 111 (.iload_n 3) 1)) (and (and (zk cX12_clause 112 (.invokevirtual 243) 3) (zk cX12_clause 115 (.istore_n 2) 1)) (zk cX12_clause 116 (.aload_n 0) 1)))) (and (and (and (and (zk cX12_clause 117 (.bipush 63) 2) (zk cX12_clause 119 (.invokevirtual 220) 3)) (zk cX12_clause 122 (.ifCond .ne 4) 3)) (and (and (zk cX12_clause 126 (.aload_n 0) 1) (zk cX12_clause 127 (.invokevirtual 217) 3)) (zk cX12_clause 130 (.istore_n 3) 1))) (and (and (and (zk cX12_clause 125 (.return_) 1) (zk cX12_clause 36 (.return_) 1)) (zk cX12_clause 11 (.aload_n 0) 1)) (and (and (zk cX12_clause 12 (.invokevirtual 188) 3) (zk cX12_clause 15 (.pop) 1)) (zk cX12_clause 16 (.return_) 1))))) = true := by decide +kernel
theorem dX12_clause_92 : decode cX12_clause 92 = .ok (.getfield 182, 3) := zk_of (zk_l (zk_l (zk_l (zk_l (zk_l zdX12_clause_92)))))
theorem dX12_clause_95 : decode cX12_clause 95 = .ok (.iconst (-1), 1) := zk_of (zk_r (zk_l (zk_l (zk_l (zk_l zdX12_clause_92)))))
theorem dX12_clause_96 : decode cX12_clause 96 = .ok (.if_icmp .ne 35, 3) := zk_of (zk_l (zk_r (zk_l (zk_l (zk_l zdX12_clause_92)))))
theorem dX12_clause_99 : decode cX12_clause 99 = .ok (.aload_n 0, 1) := zk_of (zk_r (zk_r (zk_l (zk_l (zk_l zdX12_clause_92)))))
theorem dX12_clause_100 : decode cX12_clause 100 = .ok (.invokevirtual 192, 3) := zk_of (zk_l (zk_l (zk_r (zk_l (zk_l zdX12_clause_92)))))
theorem dX12_clause_103 : decode cX12_clause 103 = .ok (.invokestatic 237, 3) := zk_of (zk_r (zk_l (zk_r (zk_l (zk_l zdX12_clause_92)))))
theorem dX12_clause_106 : decode cX12_clause 106 = .ok (.ifCond .eq 25, 3) := zk_of (zk_r (zk_r (zk_l (zk_l zdX12_clause_92))))
theorem dX12_clause_109 : decode cX12_clause 109 = .ok (.aload_n 0, 1) := zk_of (zk_l (zk_l (zk_l (zk_r (zk_l zdX12_clause_92)))))
theorem dX12_clause_110 : decode cX12_clause 110 = .ok (.iconst 1, 1) := zk_of (zk_r (zk_l (zk_l (zk_r (zk_l zdX12_clause_92)))))
theorem dX12_clause_111 : decode cX12_clause 111 = .ok (.iload_n 3, 1) := zk_of (zk_r (zk_l (zk_r (zk_l zdX12_clause_92))))
theorem dX12_clause_112 : decode cX12_clause 112 = .ok (.invokevirtual 243, 3) := zk_of (zk_l (zk_l (zk_r (zk_r (zk_l zdX12_clause_92)))))
theorem dX12_clause_115 : decode cX12_clause 115 = .ok (.istore_n 2, 1) := zk_of (zk_r (zk_l (zk_r (zk_r (zk_l zdX12_clause_92)))))
theorem dX12_clause_116 : decode cX12_clause 116 = .ok (.aload_n 0, 1) := zk_of (zk_r (zk_r (zk_r (zk_l zdX12_clause_92))))
theorem dX12_clause_117 : decode cX12_clause 117 = .ok (.bipush 63, 2) := zk_of (zk_l (zk_l (zk_l (zk_l (zk_r zdX12_clause_92)))))
theorem dX12_clause_119 : decode cX12_clause 119 = .ok (.invokevirtual 220, 3) := zk_of (zk_r (zk_l (zk_l (zk_l (zk_r zdX12_clause_92)))))
theorem dX12_clause_122 : decode cX12_clause 122 = .ok (.ifCond .ne 4, 3) := zk_of (zk_r (zk_l (zk_l (zk_r zdX12_clause_92))))
theorem dX12_clause_126 : decode cX12_clause 126 = .ok (.aload_n 0, 1) := zk_of (zk_l (zk_l (zk_r (zk_l (zk_r zdX12_clause_92)))))
theorem dX12_clause_127 : decode cX12_clause 127 = .ok (.invokevirtual 217, 3) := zk_of (zk_r (zk_l (zk_r (zk_l (zk_r zdX12_clause_92)))))
theorem dX12_clause_130 : decode cX12_clause 130 = .ok (.istore_n 3, 1) := zk_of (zk_r (zk_r (zk_l (zk_r zdX12_clause_92))))
theorem dX12_clause_125 : decode cX12_clause 125 = .ok (.return_, 1) := zk_of (zk_l (zk_l (zk_l (zk_r (zk_r zdX12_clause_92)))))
theorem dX12_clause_36 : decode cX12_clause 36 = .ok (.return_, 1) := zk_of (zk_r (zk_l (zk_l (zk_r (zk_r zdX12_clause_92)))))
theorem dX12_clause_11 : decode cX12_clause 11 = .ok (.aload_n 0, 1) := zk_of (zk_r (zk_l (zk_r (zk_r zdX12_clause_92))))
theorem dX12_clause_12 : decode cX12_clause 12 = .ok (.invokevirtual 188, 3) := zk_of (zk_l (zk_l (zk_r (zk_r (zk_r zdX12_clause_92)))))
theorem dX12_clause_15 : decode cX12_clause 15 = .ok (.pop, 1) := zk_of (zk_r (zk_l (zk_r (zk_r (zk_r zdX12_clause_92)))))
theorem dX12_clause_16 : decode cX12_clause 16 = .ok (.return_, 1) := zk_of (zk_r (zk_r (zk_r (zk_r zdX12_clause_92))))
set_option maxRecDepth 20000 in
theorem ggX12_clause_X12_isSign : GoodIn wsX12_clause wsX12_isSign := ggi (fun w h => List.mem_cons_of_mem _ (List.mem_append_left _ (List.mem_append_right _ (List.mem_append_right _ (List.mem_append_right _ (List.mem_append_right _ (List.mem_append_right _ (List.mem_append_left _ h)))))))) gs_X12_isSign
set_option maxRecDepth 20000 in
theorem gX12_clause_X12_isSign : GoodIn wsX12_clause (va_wsS RX12 237 yX12_isSign wsX12_isSign) := goodIn_app (goodIn_of _ (by decide +kernel)) ggX12_clause_X12_isSign
set_option maxRecDepth 20000 in
theorem ggX12_clause_X12_fails : GoodIn wsX12_clause wsX12_fails := ggi (fun w h => List.mem_cons_of_mem _ (List.mem_append_left _ (List.mem_append_right _ (List.mem_append_right _ (List.mem_append_right _ (List.mem_append_right _ (List.mem_append_right _ (List.mem_append_right _ h)))))))) gs_X12_fails
set_option maxRecDepth 20000 in
theorem gX12_clause_X12_fails : GoodIn wsX12_clause (wsV RX12 188 RX12 yX12_fails wsX12_fails) := goodIn_app (goodIn_of _ (by decide +kernel)) ggX12_clause_X12_fails
/-- HissHornModel.clause()V of cell 0 -/
def rmX12_clause_0 : Room := { frames := 135, cells := 0, slots := 0, locals := 8356 }
theorem hX12_clause_0_X12 : ∀ w ∈ u_ws RX12 TX12 69, w ∈ wsX12_clause := fun w h => (List.mem_cons_of_mem _ (List.mem_append_right _ h))
theorem mX12_clause_0_1 : Cond.fieldLink RX12 173 "HissHornModel" "at" "I" ∈ wsX12_clause := (List.mem_cons_of_mem _ (List.mem_append_left _ (List.mem_append_left _ (List.mem_of_getElem? (i := 18) rfl))))
theorem mX12_clause_0_2 : Cond.fieldLink RX12 182 "HissHornModel" "fault" "I" ∈ wsX12_clause := (List.mem_cons_of_mem _ (List.mem_append_left _ (List.mem_append_left _ (List.mem_of_getElem? (i := 19) rfl))))
theorem mX12_clause_0_3 : Cond.fieldLink RX12 253 "HissHornModel" "hasFound" "Z" ∈ wsX12_clause := (List.mem_cons_of_mem _ (List.mem_append_left _ (List.mem_append_left _ (List.mem_of_getElem? (i := 20) rfl))))
theorem mX12_clause_0_4 : Cond.fieldLink RX12 257 "HissHornModel" "found" "I" ∈ wsX12_clause := (List.mem_cons_of_mem _ (List.mem_append_left _ (List.mem_append_left _ (List.mem_of_getElem? (i := 21) rfl))))
def GX12_clause_0_131 (z2 : Int32) (z3 : Int32) (u : SX) : Option (Int32 × SX) := (if (u.1 7) = (-1) then (if (u.1 11) = 0 then (if z2 = 0 then (some (0, u)) else (gd (isB 1) (lt (sI u 11 1) fun u22 => (lt (sI u22 9 z3) fun u24 => (some (0, u24)))))) else (some (0, u))) else (some (0, u)))
def GX12_clause_0_61  (u : SX) : Option (Int32 × SX) := ((rX12conditiong 64 0 0 0 u).bind fun q => match q with | (r12, u13) => ((fX12_takes_0 63 u13).bind fun q => match q with | (r15, u16) => (if r15 = 0 then (some (0, u16)) else ((rX12sumg 64 0  0 u16).bind fun q => match q with | (r18, u19) => (GX12_clause_0_131 r12 r18 u19)))))
def fX12_clause_0  (u : SX) : Option (Int32 × SX) := ((fX12_look_0  u).bind fun q => match q with | (r1, u2) => (if r1 = 121 then (lt (sI u2 6 ((u2.1 6) + 1)) fun u4 => ((fX12_takes_0 58 u4).bind fun q => match q with | (r6, u7) => (if r6 = 0 then (some (0, u7)) else ((fX12_look_0  u7).bind fun q => match q with | (r9, u10) => (if r9 = 33 then (GX12_clause_0_61 u10) else (if r9 = 40 then (GX12_clause_0_61 u10) else ((rX12sumg 64 0  0 u10).bind fun q => match q with | (r26, u27) => (if (u27.1 7) = (-1) then ((fX12_look_0  u27).bind fun q => match q with | (r29, u30) => ((fX12_isSign r29).bind fun r32 => (if r32 = 0 then (GX12_clause_0_131 1 r26 u30) else ((rX12conditiong 64 0 1 r26 u30).bind fun q => match q with | (r35, u36) => ((fX12_takes_0 63 u36).bind fun q => match q with | (r38, u39) => (if r38 = 0 then (some (0, u39)) else ((rX12sumg 64 0  0 u39).bind fun q => match q with | (r41, u42) => (GX12_clause_0_131 r35 r41 u42)))))))) else (GX12_clause_0_131 1 r26 u27))))))))) else ((fX12_fails_0  u2).bind fun q => match q with | (r44, u45) => (some (0, u45)))))
set_option maxHeartbeats 4000000 in
set_option maxRecDepth 100000 in
theorem wGX12_clause_0_131 {p : Program} {l : Launch} {e : Env} {s : State} {m : MethodId} {args : Array Value} {below : List Frame} {meth : Method} {c : Code} {D : va_G} {cy : Nat → ClassId} {ad st : Nat → Nat} (C : Cx RX12 cX12_clause 5 none wsX12_clause p s m args meth c) (hK : Ky D [(cy 0, .int), (cy 1, .long), (cy 2, .boolean), (cy 3, .byte), (cy 4, .object "HissHorn$Text")] st s) (hJ : JM ad st) {r : Int32} {u' : SX}   (z2 : Int32) (z3 : Int32) (u : SX) (H : Heap) (locs : List Loc) (ls : Array Slot) (h : GX12_clause_0_131 z2 z3 u = some (r, u')) (hP : va_P D vwCl (VM cy ad st u) H) (hS : va_S (Ax (AM ad) s.heap.size) s.heap H locs) (hl : lv_has ls 5 [(0, .ref (ad 0)), (2, .int z2), (3, .int z3)]) : W p l e rmX12_clause_0 s m args below meth c H locs 0 0 (MQ below (Qv D (VM cy ad st) (AM ad) s.heap.size r u') args s 0 0 (Ax (AM ad) s.heap.size)) (F0 m 131 ls []) := by
  unfold GX12_clause_0_131 at h
  refine lv_aload_n C.1 C.2.1 dX12_clause_131 rfl (lv_at hl 0 rfl) ?_
  refine gM_0_fault C hX12_clause_0_X12 hK hP mX12_clause_0_2 dX12_clause_132 ?_
  refine lv_iconst (v := (-1)) C.1 C.2.1 dX12_clause_135 (by decide) ?_
  refine lv_icmp_ne (tgt := 150) C.1 C.2.1 dX12_clause_136 (by decide) (fun c136 => ?_) (fun c136 => ?_)
  · rw [if_neg c136] at h
    cases h
    exact rt_v C hP hS dX12_clause_150
  · rw [if_pos c136] at h
    refine lv_aload_n C.1 C.2.1 dX12_clause_139 rfl (lv_at hl 0 rfl) ?_
    refine gM_0_hasFound C hX12_clause_0_X12 hK hP mX12_clause_0_3 dX12_clause_140 ?_
    refine lv_if_ne (tgt := 150) C.1 C.2.1 dX12_clause_143 (by decide) (fun c143 => ?_) (fun c143 => ?_)
    · rw [if_neg c143] at h
      cases h
      exact rt_v C hP hS dX12_clause_150
    · rw [if_pos c143] at h
      refine lv_iload_n C.1 C.2.1 dX12_clause_146 rfl (lv_at hl 1 rfl) ?_
      refine lv_if_ne (tgt := 151) C.1 C.2.1 dX12_clause_147 (by decide) (fun c147 => ?_) (fun c147 => ?_)
      · rw [if_neg c147] at h
        refine lv_aload_n C.1 C.2.1 dX12_clause_151 rfl (lv_at hl 0 rfl) ?_
        refine lv_iconst (v := 1) C.1 C.2.1 dX12_clause_152 (by decide) ?_
        obtain ⟨hg21, h⟩ := gd_some h
        refine pM_0_hasFound hg21 C hX12_clause_0_X12 hK hP hJ hS mX12_clause_0_3 dX12_clause_153 (fun H locs hP hS => ?_)
        obtain ⟨u22, hu23, h⟩ := lt_some h
        rw [← hu23] at hP
        refine lv_aload_n C.1 C.2.1 dX12_clause_156 rfl (lv_at hl 0 rfl) ?_
        refine lv_iload_n C.1 C.2.1 dX12_clause_157 rfl (lv_at hl 2 rfl) ?_
        refine pM_0_found C hX12_clause_0_X12 hK hP hJ hS mX12_clause_0_4 dX12_clause_158 (fun H locs hP hS => ?_)
        obtain ⟨u24, hu25, h⟩ := lt_some h
        rw [← hu25] at hP
        cases h
        exact rt_v C hP hS dX12_clause_161
      · rw [if_pos c147] at h
        cases h
        exact rt_v C hP hS dX12_clause_150
set_option maxHeartbeats 4000000 in
set_option maxRecDepth 100000 in
theorem wGX12_clause_0_61 {p : Program} {l : Launch} {e : Env} {s : State} {m : MethodId} {args : Array Value} {below : List Frame} {meth : Method} {c : Code} {D : va_G} {cy : Nat → ClassId} {ad st : Nat → Nat} (C : Cx RX12 cX12_clause 5 none wsX12_clause p s m args meth c) (hK : Ky D [(cy 0, .int), (cy 1, .long), (cy 2, .boolean), (cy 3, .byte), (cy 4, .object "HissHorn$Text")] st s) (hJ : JM ad st) {r : Int32} {u' : SX}   (u : SX) (H : Heap) (locs : List Loc) (ls : Array Slot) (h : GX12_clause_0_61  u = some (r, u')) (hP : va_P D vwCl (VM cy ad st u) H) (hS : va_S (Ax (AM ad) s.heap.size) s.heap H locs) (hl : lv_has ls 5 [(0, .ref (ad 0))]) : W p l e rmX12_clause_0 s m args below meth c H locs 0 0 (MQ below (Qv D (VM cy ad st) (AM ad) s.heap.size r u') args s 0 0 (Ax (AM ad) s.heap.size)) (F0 m 61 ls []) := by
  unfold GX12_clause_0_61 at h
  refine lv_aload_n C.1 C.2.1 dX12_clause_61 rfl (lv_at hl 0 rfl) ?_
  refine lv_iconst (v := 0) C.1 C.2.1 dX12_clause_62 (by decide) ?_
  refine lv_iconst (v := 0) C.1 C.2.1 dX12_clause_63 (by decide) ?_
  obtain ⟨⟨r12, u13⟩, hc14, h⟩ := bd_some h
  try dsimp only at h
  refine cg_i (As := [.int 0, .int 0]) (rest := []) (AM_ge hJ) C hK hP hS ((hRX12conditiong_all l D cy ad st hJ 64).1 _ 0 0 _ _ _ hc14) (cwV 2 C.2.2.2.2.2.1 gX12_clause_X12_condition rfl rfl rfl (by decide +kernel) ⟨(Nat.le_of_ble_eq_true rfl), (Nat.le_of_ble_eq_true rfl)⟩) 0 12 rfl rfl rfl hl.1 rfl (Nat.le_of_ble_eq_true rfl) dX12_clause_64 ⟨Nat.zero_le _, Nat.zero_le _⟩ (fun H locs hP hS => ?_)
  refine lv_istore_n (lv' := [(2, .int r12), (0, .ref (ad 0))]) C.1 C.2.1 dX12_clause_67 rfl hl (by decide) rfl (fun ls hl => ?_)
  replace hl := lv_sub (l' := [(0, .ref (ad 0)), (2, .int r12)]) hl [1, 0] rfl
  refine lv_aload_n C.1 C.2.1 dX12_clause_68 rfl (lv_at hl 0 rfl) ?_
  refine lv_bipush (v := 63) C.1 C.2.1 dX12_clause_69 (by decide) ?_
  obtain ⟨⟨r15, u16⟩, hc17, h⟩ := bd_some h
  try dsimp only at h
  refine cg_i (As := [.int 63]) (rest := []) (AM_ge hJ) C hK hP hS (metX12_takes_0 l D cy ad st hJ _ 63 hc17) (cwV 1 C.2.2.2.2.2.1 gX12_clause_X12_takes rfl rfl rfl (by decide +kernel) ⟨(Nat.le_of_ble_eq_true rfl), (Nat.le_of_ble_eq_true rfl)⟩) 0 12 rfl rfl rfl hl.1 rfl (Nat.le_of_ble_eq_true rfl) dX12_clause_71 ⟨Nat.zero_le _, Nat.zero_le _⟩ (fun H locs hP hS => ?_)
  refine lv_if_ne (tgt := 78) C.1 C.2.1 dX12_clause_74 (by decide) (fun c74 => ?_) (fun c74 => ?_)
  · rw [if_neg c74] at h
    refine lv_aload_n C.1 C.2.1 dX12_clause_78 rfl (lv_at hl 0 rfl) ?_
    obtain ⟨⟨r18, u19⟩, hc20, h⟩ := bd_some h
    try dsimp only at h
    refine cg_i (As := []) (rest := []) (AM_ge hJ) C hK hP hS ((hRX12sumg_all l D cy ad st hJ 64).1 _  _ _ _ hc20) (cwV 0 C.2.2.2.2.2.1 gX12_clause_X12_sum rfl rfl rfl (by decide +kernel) ⟨(Nat.le_of_ble_eq_true rfl), (Nat.le_of_ble_eq_true rfl)⟩) 0 12 rfl rfl rfl hl.1 rfl (Nat.le_of_ble_eq_true rfl) dX12_clause_79 ⟨Nat.zero_le _, Nat.zero_le _⟩ (fun H locs hP hS => ?_)
    refine lv_istore_n (lv' := [(3, .int r18), (0, .ref (ad 0)), (2, .int r12)]) C.1 C.2.1 dX12_clause_82 rfl hl (by decide) rfl (fun ls hl => ?_)
    replace hl := lv_sub (l' := [(0, .ref (ad 0)), (2, .int r12), (3, .int r18)]) hl [1, 2, 0] rfl
    refine lv_goto (tgt := 131) C.1 C.2.1 dX12_clause_83 (by decide) ?_
    exact wGX12_clause_0_131 C hK hJ _ _ _ _ _ _ h hP hS hl
  · rw [if_pos c74] at h
    cases h
    exact rt_v C hP hS dX12_clause_77
set_option maxHeartbeats 4000000 in
set_option maxRecDepth 100000 in
theorem wX12_clause_0 {p : Program} {l : Launch} {e : Env} {s : State} {m : MethodId} {args : Array Value} {below : List Frame} {meth : Method} {c : Code} {D : va_G} {cy : Nat → ClassId} {ad st : Nat → Nat} (C : Cx RX12 cX12_clause 5 none wsX12_clause p s m args meth c) (hK : Ky D [(cy 0, .int), (cy 1, .long), (cy 2, .boolean), (cy 3, .byte), (cy 4, .object "HissHorn$Text")] st s) (hJ : JM ad st)  {u : SX} {r : Int32} {u' : SX} {H : Heap} {locs : List Loc} {ls : Array Slot} (h : fX12_clause_0  u = some (r, u')) (hP : va_P D vwCl (VM cy ad st u) H) (hS : va_S (Ax (AM ad) s.heap.size) s.heap H locs) (hl : lv_has ls 5 [(0, .ref (ad 0))]) : W p l e rmX12_clause_0 s m args below meth c H locs 0 0 (MQ below (Qv D (VM cy ad st) (AM ad) s.heap.size r u') args s 0 0 (Ax (AM ad) s.heap.size)) (F0 m 0 ls []) := by
  unfold fX12_clause_0 at h
  refine lv_aload_n C.1 C.2.1 dX12_clause_0 rfl (lv_at hl 0 rfl) ?_
  obtain ⟨⟨r1, u2⟩, hc3, h⟩ := bd_some h
  try dsimp only at h
  refine cg_i (As := []) (rest := []) (AM_ge hJ) C hK hP hS (metX12_look_0 l D cy ad st hJ _  hc3) (cwV 0 C.2.2.2.2.2.1 gX12_clause_X12_look rfl rfl rfl (by decide +kernel) ⟨(Nat.le_of_ble_eq_true rfl), (Nat.le_of_ble_eq_true rfl)⟩) 0 12 rfl rfl rfl hl.1 rfl (Nat.le_of_ble_eq_true rfl) dX12_clause_1 ⟨Nat.zero_le _, Nat.zero_le _⟩ (fun H locs hP hS => ?_)
  refine lv_istore_n (lv' := [(1, .int r1), (0, .ref (ad 0))]) C.1 C.2.1 dX12_clause_4 rfl hl (by decide) rfl (fun ls hl => ?_)
  replace hl := lv_sub (l' := [(0, .ref (ad 0)), (1, .int r1)]) hl [1, 0] rfl
  refine lv_iload_n C.1 C.2.1 dX12_clause_5 rfl (lv_at hl 1 rfl) ?_
  refine lv_bipush (v := 121) C.1 C.2.1 dX12_clause_6 (by decide) ?_
  refine lv_icmp_eq (tgt := 17) C.1 C.2.1 dX12_clause_8 (by decide) (fun c8 => ?_) (fun c8 => ?_)
  · rw [if_pos c8] at h
    refine lv_aload_n C.1 C.2.1 dX12_clause_17 rfl (lv_at hl 0 rfl) ?_
    refine lv_dup C.1 C.2.1 dX12_clause_18 rfl ?_
    refine gM_0_at C hX12_clause_0_X12 hK hP mX12_clause_0_1 dX12_clause_19 ?_
    refine lv_iconst (v := 1) C.1 C.2.1 dX12_clause_22 (by decide) ?_
    refine lv_iadd C.1 C.2.1 dX12_clause_23 ?_
    refine pM_0_at C hX12_clause_0_X12 hK hP hJ hS mX12_clause_0_1 dX12_clause_24 (fun H locs hP hS => ?_)
    obtain ⟨u4, hu5, h⟩ := lt_some h
    rw [← hu5] at hP
    refine lv_aload_n C.1 C.2.1 dX12_clause_27 rfl (lv_at hl 0 rfl) ?_
    refine lv_bipush (v := 58) C.1 C.2.1 dX12_clause_28 (by decide) ?_
    obtain ⟨⟨r6, u7⟩, hc8, h⟩ := bd_some h
    try dsimp only at h
    refine cg_i (As := [.int 58]) (rest := []) (AM_ge hJ) C hK hP hS (metX12_takes_0 l D cy ad st hJ _ 58 hc8) (cwV 1 C.2.2.2.2.2.1 gX12_clause_X12_takes rfl rfl rfl (by decide +kernel) ⟨(Nat.le_of_ble_eq_true rfl), (Nat.le_of_ble_eq_true rfl)⟩) 0 12 rfl rfl rfl hl.1 rfl (Nat.le_of_ble_eq_true rfl) dX12_clause_30 ⟨Nat.zero_le _, Nat.zero_le _⟩ (fun H locs hP hS => ?_)
    refine lv_if_ne (tgt := 37) C.1 C.2.1 dX12_clause_33 (by decide) (fun c33 => ?_) (fun c33 => ?_)
    · rw [if_neg c33] at h
      refine lv_iconst (v := 1) C.1 C.2.1 dX12_clause_37 (by decide) ?_
      refine lv_istore_n (lv' := [(2, .int 1), (0, .ref (ad 0)), (1, .int r1)]) C.1 C.2.1 dX12_clause_38 rfl hl (by decide) rfl (fun ls hl => ?_)
      replace hl := lv_sub (l' := [(0, .ref (ad 0)), (1, .int r1), (2, .int 1)]) hl [1, 2, 0] rfl
      refine lv_iconst (v := 0) C.1 C.2.1 dX12_clause_39 (by decide) ?_
      refine lv_istore_n (lv' := [(3, .int 0), (0, .ref (ad 0)), (1, .int r1), (2, .int 1)]) C.1 C.2.1 dX12_clause_40 rfl hl (by decide) rfl (fun ls hl => ?_)
      replace hl := lv_sub (l' := [(0, .ref (ad 0)), (1, .int r1), (2, .int 1), (3, .int 0)]) hl [1, 2, 3, 0] rfl
      refine lv_aload_n C.1 C.2.1 dX12_clause_41 rfl (lv_at hl 0 rfl) ?_
      obtain ⟨⟨r9, u10⟩, hc11, h⟩ := bd_some h
      try dsimp only at h
      refine cg_i (As := []) (rest := []) (AM_ge hJ) C hK hP hS (metX12_look_0 l D cy ad st hJ _  hc11) (cwV 0 C.2.2.2.2.2.1 gX12_clause_X12_look rfl rfl rfl (by decide +kernel) ⟨(Nat.le_of_ble_eq_true rfl), (Nat.le_of_ble_eq_true rfl)⟩) 0 12 rfl rfl rfl hl.1 rfl (Nat.le_of_ble_eq_true rfl) dX12_clause_42 ⟨Nat.zero_le _, Nat.zero_le _⟩ (fun H locs hP hS => ?_)
      refine lv_istore (lv' := [(4, .int r9), (0, .ref (ad 0)), (1, .int r1), (2, .int 1), (3, .int 0)]) C.1 C.2.1 dX12_clause_45 hl (by decide) rfl (fun ls hl => ?_)
      replace hl := lv_sub (l' := [(0, .ref (ad 0)), (1, .int r1), (2, .int 1), (3, .int 0), (4, .int r9)]) hl [1, 2, 3, 4, 0] rfl
      refine lv_iload C.1 C.2.1 dX12_clause_47 (lv_at hl 4 rfl) ?_
      refine lv_bipush (v := 33) C.1 C.2.1 dX12_clause_49 (by decide) ?_
      refine lv_icmp_eq (tgt := 61) C.1 C.2.1 dX12_clause_51 (by decide) (fun c51 => ?_) (fun c51 => ?_)
      · rw [if_pos c51] at h
        exact wGX12_clause_0_61 C hK hJ _ _ _ _ h hP hS (lv_sub hl [0] rfl)
      · rw [if_neg c51] at h
        refine lv_iload C.1 C.2.1 dX12_clause_54 (lv_at hl 4 rfl) ?_
        refine lv_bipush (v := 40) C.1 C.2.1 dX12_clause_56 (by decide) ?_
        refine lv_icmp_ne (tgt := 86) C.1 C.2.1 dX12_clause_58 (by decide) (fun c58 => ?_) (fun c58 => ?_)
        · rw [if_neg c58] at h
          refine lv_aload_n C.1 C.2.1 dX12_clause_86 rfl (lv_at hl 0 rfl) ?_
          obtain ⟨⟨r26, u27⟩, hc28, h⟩ := bd_some h
          try dsimp only at h
          refine cg_i (As := []) (rest := []) (AM_ge hJ) C hK hP hS ((hRX12sumg_all l D cy ad st hJ 64).1 _  _ _ _ hc28) (cwV 0 C.2.2.2.2.2.1 gX12_clause_X12_sum rfl rfl rfl (by decide +kernel) ⟨(Nat.le_of_ble_eq_true rfl), (Nat.le_of_ble_eq_true rfl)⟩) 0 12 rfl rfl rfl hl.1 rfl (Nat.le_of_ble_eq_true rfl) dX12_clause_87 ⟨Nat.zero_le _, Nat.zero_le _⟩ (fun H locs hP hS => ?_)
          refine lv_istore_n (lv' := [(3, .int r26), (0, .ref (ad 0)), (1, .int r1), (2, .int 1), (4, .int r9)]) C.1 C.2.1 dX12_clause_90 rfl hl (by decide) rfl (fun ls hl => ?_)
          replace hl := lv_sub (l' := [(0, .ref (ad 0)), (1, .int r1), (2, .int 1), (3, .int r26), (4, .int r9)]) hl [1, 2, 3, 0, 4] rfl
          refine lv_aload_n C.1 C.2.1 dX12_clause_91 rfl (lv_at hl 0 rfl) ?_
          refine gM_0_fault C hX12_clause_0_X12 hK hP mX12_clause_0_2 dX12_clause_92 ?_
          refine lv_iconst (v := (-1)) C.1 C.2.1 dX12_clause_95 (by decide) ?_
          refine lv_icmp_ne (tgt := 131) C.1 C.2.1 dX12_clause_96 (by decide) (fun c96 => ?_) (fun c96 => ?_)
          · rw [if_neg c96] at h
            exact wGX12_clause_0_131 C hK hJ _ _ _ _ _ _ h hP hS (lv_sub hl [0, 2, 3] rfl)
          · rw [if_pos c96] at h
            refine lv_aload_n C.1 C.2.1 dX12_clause_99 rfl (lv_at hl 0 rfl) ?_
            obtain ⟨⟨r29, u30⟩, hc31, h⟩ := bd_some h
            try dsimp only at h
            refine cg_i (As := []) (rest := []) (AM_ge hJ) C hK hP hS (metX12_look_0 l D cy ad st hJ _  hc31) (cwV 0 C.2.2.2.2.2.1 gX12_clause_X12_look rfl rfl rfl (by decide +kernel) ⟨(Nat.le_of_ble_eq_true rfl), (Nat.le_of_ble_eq_true rfl)⟩) 0 12 rfl rfl rfl hl.1 rfl (Nat.le_of_ble_eq_true rfl) dX12_clause_100 ⟨Nat.zero_le _, Nat.zero_le _⟩ (fun H locs hP hS => ?_)
            obtain ⟨r32, hc34, h⟩ := bd_some h
            refine cs_i (As := [.int r29]) (rest := []) (AM_ge hJ) C hK hP hS (metX12_isSign l D cy st _ r29 hc34) (va_cwS 1 C.2.2.2.2.2.1 gX12_clause_X12_isSign rfl rfl rfl (by decide +kernel) ⟨(Nat.le_of_ble_eq_true rfl), (Nat.le_of_ble_eq_true rfl)⟩) rfl hl.1 rfl (Nat.le_of_ble_eq_true rfl) dX12_clause_103 ⟨Nat.zero_le _, Nat.zero_le _⟩ (fun H locs hP hS => ?_)
            refine lv_if_eq (tgt := 131) C.1 C.2.1 dX12_clause_106 (by decide) (fun c106 => ?_) (fun c106 => ?_)
            · rw [if_pos c106] at h
              exact wGX12_clause_0_131 C hK hJ _ _ _ _ _ _ h hP hS (lv_sub hl [0, 2, 3] rfl)
            · rw [if_neg c106] at h
              refine lv_aload_n C.1 C.2.1 dX12_clause_109 rfl (lv_at hl 0 rfl) ?_
              refine lv_iconst (v := 1) C.1 C.2.1 dX12_clause_110 (by decide) ?_
              refine lv_iload_n C.1 C.2.1 dX12_clause_111 rfl (lv_at hl 3 rfl) ?_
              obtain ⟨⟨r35, u36⟩, hc37, h⟩ := bd_some h
              try dsimp only at h
              refine cg_i (As := [.int 1, .int r26]) (rest := []) (AM_ge hJ) C hK hP hS ((hRX12conditiong_all l D cy ad st hJ 64).1 _ 1 r26 _ _ _ hc37) (cwV 2 C.2.2.2.2.2.1 gX12_clause_X12_condition rfl rfl rfl (by decide +kernel) ⟨(Nat.le_of_ble_eq_true rfl), (Nat.le_of_ble_eq_true rfl)⟩) 0 12 rfl rfl rfl hl.1 rfl (Nat.le_of_ble_eq_true rfl) dX12_clause_112 ⟨Nat.zero_le _, Nat.zero_le _⟩ (fun H locs hP hS => ?_)
              refine lv_istore_n (lv' := [(2, .int r35), (0, .ref (ad 0)), (1, .int r1), (3, .int r26), (4, .int r9)]) C.1 C.2.1 dX12_clause_115 rfl hl (by decide) rfl (fun ls hl => ?_)
              replace hl := lv_sub (l' := [(0, .ref (ad 0)), (1, .int r1), (2, .int r35), (3, .int r26), (4, .int r9)]) hl [1, 2, 0, 3, 4] rfl
              refine lv_aload_n C.1 C.2.1 dX12_clause_116 rfl (lv_at hl 0 rfl) ?_
              refine lv_bipush (v := 63) C.1 C.2.1 dX12_clause_117 (by decide) ?_
              obtain ⟨⟨r38, u39⟩, hc40, h⟩ := bd_some h
              try dsimp only at h
              refine cg_i (As := [.int 63]) (rest := []) (AM_ge hJ) C hK hP hS (metX12_takes_0 l D cy ad st hJ _ 63 hc40) (cwV 1 C.2.2.2.2.2.1 gX12_clause_X12_takes rfl rfl rfl (by decide +kernel) ⟨(Nat.le_of_ble_eq_true rfl), (Nat.le_of_ble_eq_true rfl)⟩) 0 12 rfl rfl rfl hl.1 rfl (Nat.le_of_ble_eq_true rfl) dX12_clause_119 ⟨Nat.zero_le _, Nat.zero_le _⟩ (fun H locs hP hS => ?_)
              refine lv_if_ne (tgt := 126) C.1 C.2.1 dX12_clause_122 (by decide) (fun c122 => ?_) (fun c122 => ?_)
              · rw [if_neg c122] at h
                refine lv_aload_n C.1 C.2.1 dX12_clause_126 rfl (lv_at hl 0 rfl) ?_
                obtain ⟨⟨r41, u42⟩, hc43, h⟩ := bd_some h
                try dsimp only at h
                refine cg_i (As := []) (rest := []) (AM_ge hJ) C hK hP hS ((hRX12sumg_all l D cy ad st hJ 64).1 _  _ _ _ hc43) (cwV 0 C.2.2.2.2.2.1 gX12_clause_X12_sum rfl rfl rfl (by decide +kernel) ⟨(Nat.le_of_ble_eq_true rfl), (Nat.le_of_ble_eq_true rfl)⟩) 0 12 rfl rfl rfl hl.1 rfl (Nat.le_of_ble_eq_true rfl) dX12_clause_127 ⟨Nat.zero_le _, Nat.zero_le _⟩ (fun H locs hP hS => ?_)
                refine lv_istore_n (lv' := [(3, .int r41), (0, .ref (ad 0)), (1, .int r1), (2, .int r35), (4, .int r9)]) C.1 C.2.1 dX12_clause_130 rfl hl (by decide) rfl (fun ls hl => ?_)
                replace hl := lv_sub (l' := [(0, .ref (ad 0)), (1, .int r1), (2, .int r35), (3, .int r41), (4, .int r9)]) hl [1, 2, 3, 0, 4] rfl
                exact wGX12_clause_0_131 C hK hJ _ _ _ _ _ _ h hP hS (lv_sub hl [0, 2, 3] rfl)
              · rw [if_pos c122] at h
                cases h
                exact rt_v C hP hS dX12_clause_125
        · rw [if_pos c58] at h
          exact wGX12_clause_0_61 C hK hJ _ _ _ _ h hP hS (lv_sub hl [0] rfl)
    · rw [if_pos c33] at h
      cases h
      exact rt_v C hP hS dX12_clause_36
  · rw [if_neg c8] at h
    refine lv_aload_n C.1 C.2.1 dX12_clause_11 rfl (lv_at hl 0 rfl) ?_
    obtain ⟨⟨r44, u45⟩, hc46, h⟩ := bd_some h
    try dsimp only at h
    refine cg_i (As := []) (rest := []) (AM_ge hJ) C hK hP hS (metX12_fails_0 l D cy ad st hJ _  hc46) (cwV 0 C.2.2.2.2.2.1 gX12_clause_X12_fails rfl rfl rfl (by decide +kernel) ⟨(Nat.le_of_ble_eq_true rfl), (Nat.le_of_ble_eq_true rfl)⟩) 0 12 rfl rfl rfl hl.1 rfl (Nat.le_of_ble_eq_true rfl) dX12_clause_12 ⟨Nat.zero_le _, Nat.zero_le _⟩ (fun H locs hP hS => ?_)
    refine lv_pop C.1 C.2.1 dX12_clause_15 rfl ?_
    cases h
    exact rt_v C hP hS dX12_clause_16
theorem metX12_clause_0 (l : Launch) (D : va_G) (cy : Nat → ClassId) (ad st : Nat → Nat) (hJ : JM ad st) (sz : Nat)  {u : SX} {r : Int32} {u' : SX} (h : fX12_clause_0  u = some (r, u')) : Met l yX12_clause wsX12_clause rmX12_clause_0 (va_Pc [.ref (ad 0)] (Px D [(cy 0, .int), (cy 1, .long), (cy 2, .boolean), (cy 3, .byte), (cy 4, .object "HissHorn$Text")] st (VM cy ad st) sz u)) (Qv D (VM cy ad st) (AM ad) sz r u') 0 0 (Ax (AM ad) sz) := by
  refine Met.ofW (cc := cX12_clause) (maxL := 5) (ret := none) (by decide) rfl ?_
  intro p e s m args below meth c s₁ B hml hv
  obtain ⟨rfl, hsz, hP, hK⟩ := hv
  subst hsz
  have C : Cx RX12 cX12_clause 5 none wsX12_clause p s m _ meth c := ⟨B.exec, B.bytes, hml, B.returns, findClass_of_methodNamed B.named, atoms_spec (ws := wsX12_clause) B.pre, B.notSynchronized⟩
  have hl := lv_entry ([.ref (ad 0)]) (n := 5) (Nat.le_of_ble_eq_true rfl)
  rw [lg_entry_eq]
  exact wX12_clause_0 C hK hJ h hP va_S.rf hl

theorem zdX12_goThrough_73 : (and (and (and (and (and (zk cX12_goThrough 73 (.aload_n 0) 1) (zk cX12_goThrough 74 (.getfield 182) 3)) (and (zk cX12_goThrough 77 (.iconst (-1)) 1) (zk cX12_goThrough 78 (.if_icmp .ne 29) 3))) (and (and (zk cX12_goThrough 81 (.aload_n 0) 1) (zk cX12_goThrough 82 (.invokevirtual 192) 3)) (and (zk cX12_goThrough 85 (.bipush 59) 2) (zk cX12_goThrough 87 (.if_icmp .ne 20) 3)))) (and (and (and (zk cX12_goThrough 90 (.aload_n 0) 1) (zk cX12_goThrough 91 (.dup) 1)) (and (zk cX12_goThrough 92 (.getfield 173) 3) (zk cX12_goThrough 95 (.iconst 1) 1))) (and (and (zk cX12_goThrough 96 (.iadd) 1) (zk cX12_goThrough 97 (.putfield 173) 3)) (and (zk cX12_goThrough 100 (.aload_n 0) 1) (zk cX12_goThrough 101 (.invokevirtual 264) 3))))) (and (and (and (and (zk cX12_goThrough 104 (.goto (-31)) 3) (zk cX12_goThrough 107 (.aload_n 0) 1)) (and (zk cX12_goThrough 108 (.getfield 182) 3) (zk cX12_goThrough 111 (.iconst (-1)) 1))) (and (and (zk cX12_goThrough 112 (.if_icmp .ne 16) 3) (zk cX12_goThrough 128 (.return_) 1)) (and (zk cX12_goThrough 115 (.aload_n 0) 1) (zk cX12_goThrough 116 (.invokevirtual 192) 3)))) (and (and (and (zk cX12_goThrough 119 (.iconst (-1)) 1) (zk cX12_goThrough 120 (.if_icmp .eq 8) 3)) (and (zk cX12_goThrough 123 (.aload_n 0) 1) (zk cX12_goThrough 124 (.invokevirtual 188) 3))) (and (and (zk cX12_goThrough 127 (.pop) 1) (zk cX12_goThrough 41 (.putfield 31) 3)) (and (zk cX12_goThrough 44 (.aload_n 0) 1) (zk cX12_goThrough 45 (.iconst 0) 1)))))) = true := by decide +kernel
theorem dX12_goThrough_73 : decode cX12_goThrough 73 = .ok (.aload_n 0, 1) := zk_of (zk_l (zk_l (zk_l (zk_l (zk_l zdX12_goThrough_73)))))
theorem dX12_goThrough_74 : decode cX12_goThrough 74 = .ok (.getfield 182, 3) := zk_of (zk_r (zk_l (zk_l (zk_l (zk_l zdX12_goThrough_73)))))
theorem dX12_goThrough_77 : decode cX12_goThrough 77 = .ok (.iconst (-1), 1) := zk_of (zk_l (zk_r (zk_l (zk_l (zk_l zdX12_goThrough_73)))))
theorem dX12_goThrough_78 : decode cX12_goThrough 78 = .ok (.if_icmp .ne 29, 3) := zk_of (zk_r (zk_r (zk_l (zk_l (zk_l zdX12_goThrough_73)))))
theorem dX12_goThrough_81 : decode cX12_goThrough 81 = .ok (.aload_n 0, 1) := zk_of (zk_l (zk_l (zk_r (zk_l (zk_l zdX12_goThrough_73)))))
theorem dX12_goThrough_82 : decode cX12_goThrough 82 = .ok (.invokevirtual 192, 3) := zk_of (zk_r (zk_l (zk_r (zk_l (zk_l zdX12_goThrough_73)))))
theorem dX12_goThrough_85 : decode cX12_goThrough 85 = .ok (.bipush 59, 2) := zk_of (zk_l (zk_r (zk_r (zk_l (zk_l zdX12_goThrough_73)))))
theorem dX12_goThrough_87 : decode cX12_goThrough 87 = .ok (.if_icmp .ne 20, 3) := zk_of (zk_r (zk_r (zk_r (zk_l (zk_l zdX12_goThrough_73)))))
theorem dX12_goThrough_90 : decode cX12_goThrough 90 = .ok (.aload_n 0, 1) := zk_of (zk_l (zk_l (zk_l (zk_r (zk_l zdX12_goThrough_73)))))
theorem dX12_goThrough_91 : decode cX12_goThrough 91 = .ok (.dup, 1) := zk_of (zk_r (zk_l (zk_l (zk_r (zk_l zdX12_goThrough_73)))))
theorem dX12_goThrough_92 : decode cX12_goThrough 92 = .ok (.getfield 173, 3) := zk_of (zk_l (zk_r (zk_l (zk_r (zk_l zdX12_goThrough_73)))))
theorem dX12_goThrough_95 : decode cX12_goThrough 95 = .ok (.iconst 1, 1) := zk_of (zk_r (zk_r (zk_l (zk_r (zk_l zdX12_goThrough_73)))))
theorem dX12_goThrough_96 : decode cX12_goThrough 96 = .ok (.iadd, 1) := zk_of (zk_l (zk_l (zk_r (zk_r (zk_l zdX12_goThrough_73)))))
theorem dX12_goThrough_97 : decode cX12_goThrough 97 = .ok (.putfield 173, 3) := zk_of (zk_r (zk_l (zk_r (zk_r (zk_l zdX12_goThrough_73)))))
theorem dX12_goThrough_100 : decode cX12_goThrough 100 = .ok (.aload_n 0, 1) := zk_of (zk_l (zk_r (zk_r (zk_r (zk_l zdX12_goThrough_73)))))
theorem dX12_goThrough_101 : decode cX12_goThrough 101 = .ok (.invokevirtual 264, 3) := zk_of (zk_r (zk_r (zk_r (zk_r (zk_l zdX12_goThrough_73)))))
theorem dX12_goThrough_104 : decode cX12_goThrough 104 = .ok (.goto (-31), 3) := zk_of (zk_l (zk_l (zk_l (zk_l (zk_r zdX12_goThrough_73)))))
theorem dX12_goThrough_107 : decode cX12_goThrough 107 = .ok (.aload_n 0, 1) := zk_of (zk_r (zk_l (zk_l (zk_l (zk_r zdX12_goThrough_73)))))
theorem dX12_goThrough_108 : decode cX12_goThrough 108 = .ok (.getfield 182, 3) := zk_of (zk_l (zk_r (zk_l (zk_l (zk_r zdX12_goThrough_73)))))
theorem dX12_goThrough_111 : decode cX12_goThrough 111 = .ok (.iconst (-1), 1) := zk_of (zk_r (zk_r (zk_l (zk_l (zk_r zdX12_goThrough_73)))))
theorem dX12_goThrough_112 : decode cX12_goThrough 112 = .ok (.if_icmp .ne 16, 3) := zk_of (zk_l (zk_l (zk_r (zk_l (zk_r zdX12_goThrough_73)))))
theorem dX12_goThrough_128 : decode cX12_goThrough 128 = .ok (.return_, 1) := zk_of (zk_r (zk_l (zk_r (zk_l (zk_r zdX12_goThrough_73)))))
theorem dX12_goThrough_115 : decode cX12_goThrough 115 = .ok (.aload_n 0, 1) := zk_of (zk_l (zk_r (zk_r (zk_l (zk_r zdX12_goThrough_73)))))
theorem dX12_goThrough_116 : decode cX12_goThrough 116 = .ok (.invokevirtual 192, 3) := zk_of (zk_r (zk_r (zk_r (zk_l (zk_r zdX12_goThrough_73)))))
theorem dX12_goThrough_119 : decode cX12_goThrough 119 = .ok (.iconst (-1), 1) := zk_of (zk_l (zk_l (zk_l (zk_r (zk_r zdX12_goThrough_73)))))
theorem dX12_goThrough_120 : decode cX12_goThrough 120 = .ok (.if_icmp .eq 8, 3) := zk_of (zk_r (zk_l (zk_l (zk_r (zk_r zdX12_goThrough_73)))))
theorem dX12_goThrough_123 : decode cX12_goThrough 123 = .ok (.aload_n 0, 1) := zk_of (zk_l (zk_r (zk_l (zk_r (zk_r zdX12_goThrough_73)))))
theorem dX12_goThrough_124 : decode cX12_goThrough 124 = .ok (.invokevirtual 188, 3) := zk_of (zk_r (zk_r (zk_l (zk_r (zk_r zdX12_goThrough_73)))))
theorem dX12_goThrough_127 : decode cX12_goThrough 127 = .ok (.pop, 1) := zk_of (zk_l (zk_l (zk_r (zk_r (zk_r zdX12_goThrough_73)))))
theorem dX12_goThrough_41 : decode cX12_goThrough 41 = .ok (.putfield 31, 3) := zk_of (zk_r (zk_l (zk_r (zk_r (zk_r zdX12_goThrough_73)))))
theorem dX12_goThrough_44 : decode cX12_goThrough 44 = .ok (.aload_n 0, 1) := zk_of (zk_l (zk_r (zk_r (zk_r (zk_r zdX12_goThrough_73)))))
theorem dX12_goThrough_45 : decode cX12_goThrough 45 = .ok (.iconst 0, 1) := zk_of (zk_r (zk_r (zk_r (zk_r (zk_r zdX12_goThrough_73)))))
set_option maxRecDepth 20000 in
theorem ggX12_goThrough_X12_look : GoodIn wsX12_goThrough wsX12_look := ggi (fun w h => List.mem_cons_of_mem _ (List.mem_append_left _ (List.mem_append_right _ (List.mem_append_left _ h)))) gs_X12_look
set_option maxRecDepth 20000 in
theorem gX12_goThrough_X12_look : GoodIn wsX12_goThrough (wsV RX12 192 RX12 yX12_look wsX12_look) := goodIn_app (goodIn_of _ (by decide +kernel)) ggX12_goThrough_X12_look
set_option maxRecDepth 20000 in
theorem ggX12_goThrough_X12_clause : GoodIn wsX12_goThrough wsX12_clause := ggi (fun w h => List.mem_cons_of_mem _ (List.mem_append_left _ (List.mem_append_right _ (List.mem_append_right _ (List.mem_append_left _ h))))) gs_X12_clause
set_option maxRecDepth 20000 in
theorem gX12_goThrough_X12_clause : GoodIn wsX12_goThrough (wsV RX12 264 RX12 yX12_clause wsX12_clause) := goodIn_app (goodIn_of _ (by decide +kernel)) ggX12_goThrough_X12_clause
set_option maxRecDepth 20000 in
theorem ggX12_goThrough_X12_fails : GoodIn wsX12_goThrough wsX12_fails := ggi (fun w h => List.mem_cons_of_mem _ (List.mem_append_left _ (List.mem_append_right _ (List.mem_append_right _ (List.mem_append_right _ h))))) gs_X12_fails
set_option maxRecDepth 20000 in
theorem gX12_goThrough_X12_fails : GoodIn wsX12_goThrough (wsV RX12 188 RX12 yX12_fails wsX12_fails) := goodIn_app (goodIn_of _ (by decide +kernel)) ggX12_goThrough_X12_fails
theorem zdX12_goThrough_46 : (and (and (and (and (and (zk cX12_goThrough 46 (.putfield 173) 3) (zk cX12_goThrough 49 (.aload_n 0) 1)) (and (zk cX12_goThrough 50 (.iconst (-1)) 1) (zk cX12_goThrough 51 (.putfield 182) 3))) (and (and (zk cX12_goThrough 54 (.aload_n 0) 1) (zk cX12_goThrough 55 (.iconst 0) 1)) (and (zk cX12_goThrough 56 (.putfield 185) 3) (zk cX12_goThrough 59 (.aload_n 0) 1)))) (and (and (and (zk cX12_goThrough 60 (.iconst 0) 1) (zk cX12_goThrough 61 (.putfield 253) 3)) (and (zk cX12_goThrough 64 (.aload_n 0) 1) (zk cX12_goThrough 65 (.iconst 0) 1))) (and (and (zk cX12_goThrough 66 (.putfield 257) 3) (zk cX12_goThrough 69 (.aload_n 0) 1)) (and (zk cX12_goThrough 70 (.invokevirtual 264) 3) (zk cX12_goThrough 0 (.aload_n 0) 1))))) (and (and (and (and (zk cX12_goThrough 1 (.aload_n 1) 1) (zk cX12_goThrough 2 (.putfield 26) 3)) (and (zk cX12_goThrough 5 (.aload_n 0) 1) (zk cX12_goThrough 6 (.iload_n 2) 1))) (and (and (zk cX12_goThrough 7 (.putfield 179) 3) (zk cX12_goThrough 10 (.aload_n 0) 1)) (and (zk cX12_goThrough 11 (.iload_n 3) 1) (zk cX12_goThrough 12 (.putfield 176) 3)))) (and (and (and (zk cX12_goThrough 15 (.aload_n 0) 1) (zk cX12_goThrough 16 (.iload 4) 2)) (and (zk cX12_goThrough 18 (.ifCond .ne 8) 3) (zk cX12_goThrough 26 (.iload 4) 2))) (and (and (zk cX12_goThrough 28 (.iconst 1) 1) (zk cX12_goThrough 29 (.if_icmp .ne 9) 3)) (and (zk cX12_goThrough 38 (.ldc_w 262) 3) (zk cX12_goThrough 32 (.ldc_w 260) 3)))))) = true := by decide +kernel
theorem dX12_goThrough_46 : decode cX12_goThrough 46 = .ok (.putfield 173, 3) := zk_of (zk_l (zk_l (zk_l (zk_l (zk_l zdX12_goThrough_46)))))
theorem dX12_goThrough_49 : decode cX12_goThrough 49 = .ok (.aload_n 0, 1) := zk_of (zk_r (zk_l (zk_l (zk_l (zk_l zdX12_goThrough_46)))))
theorem dX12_goThrough_50 : decode cX12_goThrough 50 = .ok (.iconst (-1), 1) := zk_of (zk_l (zk_r (zk_l (zk_l (zk_l zdX12_goThrough_46)))))
theorem dX12_goThrough_51 : decode cX12_goThrough 51 = .ok (.putfield 182, 3) := zk_of (zk_r (zk_r (zk_l (zk_l (zk_l zdX12_goThrough_46)))))
theorem dX12_goThrough_54 : decode cX12_goThrough 54 = .ok (.aload_n 0, 1) := zk_of (zk_l (zk_l (zk_r (zk_l (zk_l zdX12_goThrough_46)))))
theorem dX12_goThrough_55 : decode cX12_goThrough 55 = .ok (.iconst 0, 1) := zk_of (zk_r (zk_l (zk_r (zk_l (zk_l zdX12_goThrough_46)))))
theorem dX12_goThrough_56 : decode cX12_goThrough 56 = .ok (.putfield 185, 3) := zk_of (zk_l (zk_r (zk_r (zk_l (zk_l zdX12_goThrough_46)))))
theorem dX12_goThrough_59 : decode cX12_goThrough 59 = .ok (.aload_n 0, 1) := zk_of (zk_r (zk_r (zk_r (zk_l (zk_l zdX12_goThrough_46)))))
theorem dX12_goThrough_60 : decode cX12_goThrough 60 = .ok (.iconst 0, 1) := zk_of (zk_l (zk_l (zk_l (zk_r (zk_l zdX12_goThrough_46)))))
theorem dX12_goThrough_61 : decode cX12_goThrough 61 = .ok (.putfield 253, 3) := zk_of (zk_r (zk_l (zk_l (zk_r (zk_l zdX12_goThrough_46)))))
theorem dX12_goThrough_64 : decode cX12_goThrough 64 = .ok (.aload_n 0, 1) := zk_of (zk_l (zk_r (zk_l (zk_r (zk_l zdX12_goThrough_46)))))
theorem dX12_goThrough_65 : decode cX12_goThrough 65 = .ok (.iconst 0, 1) := zk_of (zk_r (zk_r (zk_l (zk_r (zk_l zdX12_goThrough_46)))))
theorem dX12_goThrough_66 : decode cX12_goThrough 66 = .ok (.putfield 257, 3) := zk_of (zk_l (zk_l (zk_r (zk_r (zk_l zdX12_goThrough_46)))))
theorem dX12_goThrough_69 : decode cX12_goThrough 69 = .ok (.aload_n 0, 1) := zk_of (zk_r (zk_l (zk_r (zk_r (zk_l zdX12_goThrough_46)))))
theorem dX12_goThrough_70 : decode cX12_goThrough 70 = .ok (.invokevirtual 264, 3) := zk_of (zk_l (zk_r (zk_r (zk_r (zk_l zdX12_goThrough_46)))))
theorem dX12_goThrough_0 : decode cX12_goThrough 0 = .ok (.aload_n 0, 1) := zk_of (zk_r (zk_r (zk_r (zk_r (zk_l zdX12_goThrough_46)))))
theorem dX12_goThrough_1 : decode cX12_goThrough 1 = .ok (.aload_n 1, 1) := zk_of (zk_l (zk_l (zk_l (zk_l (zk_r zdX12_goThrough_46)))))
theorem dX12_goThrough_2 : decode cX12_goThrough 2 = .ok (.putfield 26, 3) := zk_of (zk_r (zk_l (zk_l (zk_l (zk_r zdX12_goThrough_46)))))
theorem dX12_goThrough_5 : decode cX12_goThrough 5 = .ok (.aload_n 0, 1) := zk_of (zk_l (zk_r (zk_l (zk_l (zk_r zdX12_goThrough_46)))))
theorem dX12_goThrough_6 : decode cX12_goThrough 6 = .ok (.iload_n 2, 1) := zk_of (zk_r (zk_r (zk_l (zk_l (zk_r zdX12_goThrough_46)))))
theorem dX12_goThrough_7 : decode cX12_goThrough 7 = .ok (.putfield 179, 3) := zk_of (zk_l (zk_l (zk_r (zk_l (zk_r zdX12_goThrough_46)))))
theorem dX12_goThrough_10 : decode cX12_goThrough 10 = .ok (.aload_n 0, 1) := zk_of (zk_r (zk_l (zk_r (zk_l (zk_r zdX12_goThrough_46)))))
theorem dX12_goThrough_11 : decode cX12_goThrough 11 = .ok (.iload_n 3, 1) := zk_of (zk_l (zk_r (zk_r (zk_l (zk_r zdX12_goThrough_46)))))
theorem dX12_goThrough_12 : decode cX12_goThrough 12 = .ok (.putfield 176, 3) := zk_of (zk_r (zk_r (zk_r (zk_l (zk_r zdX12_goThrough_46)))))
theorem dX12_goThrough_15 : decode cX12_goThrough 15 = .ok (.aload_n 0, 1) := zk_of (zk_l (zk_l (zk_l (zk_r (zk_r zdX12_goThrough_46)))))
theorem dX12_goThrough_16 : decode cX12_goThrough 16 = .ok (.iload 4, 2) := zk_of (zk_r (zk_l (zk_l (zk_r (zk_r zdX12_goThrough_46)))))
theorem dX12_goThrough_18 : decode cX12_goThrough 18 = .ok (.ifCond .ne 8, 3) := zk_of (zk_l (zk_r (zk_l (zk_r (zk_r zdX12_goThrough_46)))))
theorem dX12_goThrough_26 : decode cX12_goThrough 26 = .ok (.iload 4, 2) := zk_of (zk_r (zk_r (zk_l (zk_r (zk_r zdX12_goThrough_46)))))
theorem dX12_goThrough_28 : decode cX12_goThrough 28 = .ok (.iconst 1, 1) := zk_of (zk_l (zk_l (zk_r (zk_r (zk_r zdX12_goThrough_46)))))
theorem dX12_goThrough_29 : decode cX12_goThrough 29 = .ok (.if_icmp .ne 9, 3) := zk_of (zk_r (zk_l (zk_r (zk_r (zk_r zdX12_goThrough_46)))))
theorem dX12_goThrough_38 : decode cX12_goThrough 38 = .ok (.ldc_w 262, 3) := zk_of (zk_l (zk_r (zk_r (zk_r (zk_r zdX12_goThrough_46)))))
theorem dX12_goThrough_32 : decode cX12_goThrough 32 = .ok (.ldc_w 260, 3) := zk_of (zk_r (zk_r (zk_r (zk_r (zk_r zdX12_goThrough_46)))))
theorem zdX12_goThrough_35 : (and (and (zk cX12_goThrough 35 (.goto 6) 3) (zk cX12_goThrough 21 (.ldc 29) 2)) (zk cX12_goThrough 23 (.goto 18) 3)) = true := by decide +kernel
theorem dX12_goThrough_35 : decode cX12_goThrough 35 = .ok (.goto 6, 3) := zk_of (zk_l (zk_l zdX12_goThrough_35))
theorem dX12_goThrough_21 : decode cX12_goThrough 21 = .ok (.ldc 29, 2) := zk_of (zk_r (zk_l zdX12_goThrough_35))
theorem dX12_goThrough_23 : decode cX12_goThrough 23 = .ok (.goto 18, 3) := zk_of (zk_r zdX12_goThrough_35)
/-- HissHornModel.goThrough([BIII)V of cell 0 -/
def rmX12_goThrough_0_a1 : Room := { frames := 136, cells := 0, slots := 0, locals := 8380 }
theorem hX12_goThrough_0_a1_X12 : ∀ w ∈ u_ws RX12 TX12 69, w ∈ wsX12_goThrough := fun w h => (List.mem_cons_of_mem _ (List.mem_append_right _ h))
theorem mX12_goThrough_0_a1_1 : Cond.fieldLink RX12 26 "HissHornModel" "text" "[B" ∈ wsX12_goThrough := (List.mem_cons_of_mem _ (List.mem_append_left _ (List.mem_append_left _ (List.mem_of_getElem? (i := 10) rfl))))
theorem mX12_goThrough_0_a1_2 : Cond.fieldLink RX12 179 "HissHornModel" "begins" "I" ∈ wsX12_goThrough := (List.mem_cons_of_mem _ (List.mem_append_left _ (List.mem_append_left _ (List.mem_of_getElem? (i := 11) rfl))))
theorem mX12_goThrough_0_a1_3 : Cond.fieldLink RX12 176 "HissHornModel" "ends" "I" ∈ wsX12_goThrough := (List.mem_cons_of_mem _ (List.mem_append_left _ (List.mem_append_left _ (List.mem_of_getElem? (i := 12) rfl))))
theorem mX12_goThrough_0_a1_4 : Cond.fieldLink RX12 31 "HissHornModel" "allowed" "Ljava/lang/String;" ∈ wsX12_goThrough := (List.mem_cons_of_mem _ (List.mem_append_left _ (List.mem_append_left _ (List.mem_of_getElem? (i := 13) rfl))))
theorem mX12_goThrough_0_a1_5 : Cond.fieldLink RX12 173 "HissHornModel" "at" "I" ∈ wsX12_goThrough := (List.mem_cons_of_mem _ (List.mem_append_left _ (List.mem_append_left _ (List.mem_of_getElem? (i := 14) rfl))))
theorem mX12_goThrough_0_a1_6 : Cond.fieldLink RX12 182 "HissHornModel" "fault" "I" ∈ wsX12_goThrough := (List.mem_cons_of_mem _ (List.mem_append_left _ (List.mem_append_left _ (List.mem_of_getElem? (i := 15) rfl))))
theorem mX12_goThrough_0_a1_7 : Cond.fieldLink RX12 185 "HissHornModel" "deep" "I" ∈ wsX12_goThrough := (List.mem_cons_of_mem _ (List.mem_append_left _ (List.mem_append_left _ (List.mem_of_getElem? (i := 16) rfl))))
theorem mX12_goThrough_0_a1_8 : Cond.fieldLink RX12 253 "HissHornModel" "hasFound" "Z" ∈ wsX12_goThrough := (List.mem_cons_of_mem _ (List.mem_append_left _ (List.mem_append_left _ (List.mem_of_getElem? (i := 17) rfl))))
theorem mX12_goThrough_0_a1_9 : Cond.fieldLink RX12 257 "HissHornModel" "found" "I" ∈ wsX12_goThrough := (List.mem_cons_of_mem _ (List.mem_append_left _ (List.mem_append_left _ (List.mem_of_getElem? (i := 18) rfl))))
def LX12_goThrough_0_a1_73 (k107 : SX → Option (Int32 × SX)) : Nat → SX → Option (Int32 × SX)
  | 0, _ => none
  | n + 1, u => (if (u.1 7) = (-1) then ((fX12_look_0  u).bind fun q => match q with | (r23, u24) => (if r23 = 59 then (lt (sI u24 6 ((u24.1 6) + 1)) fun u26 => ((fX12_clause_0  u26).bind fun q => match q with | (r28, u29) => ((LX12_goThrough_0_a1_73 k107 n) u29))) else (k107 u24))) else (k107 u))
def GX12_goThrough_0_a1_107  (u : SX) : Option (Int32 × SX) := (if (u.1 7) = (-1) then ((fX12_look_0  u).bind fun q => match q with | (r31, u32) => (if r31 = (-1) then (some (0, u32)) else ((fX12_fails_0  u32).bind fun q => match q with | (r34, u35) => (some (0, u35))))) else (some (0, u)))
def GX12_goThrough_0_a1_41  (u : SX) : Option (Int32 × SX) := (lt (sI u 10 7) fun u7 => (lt (sI u7 6 0) fun u9 => (lt (sI u9 7 (-1)) fun u11 => (lt (sI u11 8 0) fun u13 => (gd (isB 0) (lt (sI u13 11 0) fun u16 => (lt (sI u16 9 0) fun u18 => ((fX12_clause_0  u18).bind fun q => match q with | (r20, u21) => (LX12_goThrough_0_a1_73 GX12_goThrough_0_a1_107 5000 u21)))))))))
def GX12_goThrough_0_a1_41a  (u : SX) : Option (Int32 × SX) := (lt (sI u 10 6) fun u37 => (lt (sI u37 6 0) fun u39 => (lt (sI u39 7 (-1)) fun u41 => (lt (sI u41 8 0) fun u43 => (gd (isB 0) (lt (sI u43 11 0) fun u46 => (lt (sI u46 9 0) fun u48 => ((fX12_clause_0  u48).bind fun q => match q with | (r50, u51) => (LX12_goThrough_0_a1_73 GX12_goThrough_0_a1_107 5000 u51)))))))))
def GX12_goThrough_0_a1_41b  (u : SX) : Option (Int32 × SX) := (lt (sI u 10 5) fun u53 => (lt (sI u53 6 0) fun u55 => (lt (sI u55 7 (-1)) fun u57 => (lt (sI u57 8 0) fun u59 => (gd (isB 0) (lt (sI u59 11 0) fun u62 => (lt (sI u62 9 0) fun u64 => ((fX12_clause_0  u64).bind fun q => match q with | (r66, u67) => (LX12_goThrough_0_a1_73 GX12_goThrough_0_a1_107 5000 u67)))))))))
def fX12_goThrough_0_a1 (x2 : Int32) (x3 : Int32) (x4 : Int32) (u : SX) : Option (Int32 × SX) := (lt (sI u 2 2) fun u1 => (lt (sI u1 4 x2) fun u3 => (lt (sI u3 5 x3) fun u5 => (if x4 = 0 then (GX12_goThrough_0_a1_41b u5) else (if x4 = 1 then (GX12_goThrough_0_a1_41a u5) else (GX12_goThrough_0_a1_41 u5))))))
set_option maxHeartbeats 4000000 in
set_option maxRecDepth 100000 in
theorem wLX12_goThrough_0_a1_73 {p : Program} {l : Launch} {e : Env} {s : State} {m : MethodId} {args : Array Value} {below : List Frame} {meth : Method} {c : Code} {D : va_G} {cy : Nat → ClassId} {ad st : Nat → Nat} (C : Cx RX12 cX12_goThrough 5 none wsX12_goThrough p s m args meth c) (hK : Ky D [(cy 0, .int), (cy 1, .long), (cy 2, .boolean), (cy 3, .byte), (cy 4, .object "HissHorn$Text")] st s) (hJ : JM ad st) {r : Int32} {u' : SX} {k107 : SX → Option (Int32 × SX)} (hk107 : ∀  (u : SX) (H : Heap) (locs : List Loc) (ls : Array Slot), k107 u = some (r, u') → va_P D vwCl (VM cy ad st u) H → va_S (Ax (AM ad) s.heap.size) s.heap H locs → lv_has ls 5 [(0, .ref (ad 0))] → W p l e rmX12_goThrough_0_a1 s m args below meth c H locs 0 0 (MQ below (Qv D (VM cy ad st) (AM ad) s.heap.size r u') args s 0 0 (Ax (AM ad) s.heap.size)) (F0 m 107 ls [])) : ∀ (n : Nat) (u : SX) (H : Heap) (locs : List Loc) (ls : Array Slot), LX12_goThrough_0_a1_73 k107 n u = some (r, u') → va_P D vwCl (VM cy ad st u) H → va_S (Ax (AM ad) s.heap.size) s.heap H locs → lv_has ls 5 [(0, .ref (ad 0))] → W p l e rmX12_goThrough_0_a1 s m args below meth c H locs 0 0 (MQ below (Qv D (VM cy ad st) (AM ad) s.heap.size r u') args s 0 0 (Ax (AM ad) s.heap.size)) (F0 m 73 ls []) := by
  intro n
  induction n with
  | zero =>
    intro u H locs ls h
    exact absurd h (by intro q; cases q)
  | succ n ih =>
    intro u H locs ls h hP hS hl
    rw [LX12_goThrough_0_a1_73] at h
    refine lv_aload_n C.1 C.2.1 dX12_goThrough_73 rfl (lv_at hl 0 rfl) ?_
    refine gM_0_fault C hX12_goThrough_0_a1_X12 hK hP mX12_goThrough_0_a1_6 dX12_goThrough_74 ?_
    refine lv_iconst (v := (-1)) C.1 C.2.1 dX12_goThrough_77 (by decide) ?_
    refine lv_icmp_ne (tgt := 107) C.1 C.2.1 dX12_goThrough_78 (by decide) (fun c78 => ?_) (fun c78 => ?_)
    · rw [if_neg c78] at h
      exact hk107 _ _ _ _ h hP hS hl
    · rw [if_pos c78] at h
      refine lv_aload_n C.1 C.2.1 dX12_goThrough_81 rfl (lv_at hl 0 rfl) ?_
      obtain ⟨⟨r23, u24⟩, hc25, h⟩ := bd_some h
      try dsimp only at h
      refine cg_i (As := []) (rest := []) (AM_ge hJ) C hK hP hS (metX12_look_0 l D cy ad st hJ _  hc25) (cwV 0 C.2.2.2.2.2.1 gX12_goThrough_X12_look rfl rfl rfl (by decide +kernel) ⟨(Nat.le_of_ble_eq_true rfl), (Nat.le_of_ble_eq_true rfl)⟩) 0 12 rfl rfl rfl hl.1 rfl (Nat.le_of_ble_eq_true rfl) dX12_goThrough_82 ⟨Nat.zero_le _, Nat.zero_le _⟩ (fun H locs hP hS => ?_)
      refine lv_bipush (v := 59) C.1 C.2.1 dX12_goThrough_85 (by decide) ?_
      refine lv_icmp_ne (tgt := 107) C.1 C.2.1 dX12_goThrough_87 (by decide) (fun c87 => ?_) (fun c87 => ?_)
      · rw [if_neg c87] at h
        exact hk107 _ _ _ _ h hP hS hl
      · rw [if_pos c87] at h
        refine lv_aload_n C.1 C.2.1 dX12_goThrough_90 rfl (lv_at hl 0 rfl) ?_
        refine lv_dup C.1 C.2.1 dX12_goThrough_91 rfl ?_
        refine gM_0_at C hX12_goThrough_0_a1_X12 hK hP mX12_goThrough_0_a1_5 dX12_goThrough_92 ?_
        refine lv_iconst (v := 1) C.1 C.2.1 dX12_goThrough_95 (by decide) ?_
        refine lv_iadd C.1 C.2.1 dX12_goThrough_96 ?_
        refine pM_0_at C hX12_goThrough_0_a1_X12 hK hP hJ hS mX12_goThrough_0_a1_5 dX12_goThrough_97 (fun H locs hP hS => ?_)
        obtain ⟨u26, hu27, h⟩ := lt_some h
        rw [← hu27] at hP
        refine lv_aload_n C.1 C.2.1 dX12_goThrough_100 rfl (lv_at hl 0 rfl) ?_
        obtain ⟨⟨r28, u29⟩, hc30, h⟩ := bd_some h
        try dsimp only at h
        refine cg_v (As := []) (rest := []) (AM_ge hJ) C hK hP hS (metX12_clause_0 l D cy ad st hJ _  hc30) (cwV 0 C.2.2.2.2.2.1 gX12_goThrough_X12_clause rfl rfl rfl (by decide +kernel) ⟨(Nat.le_of_ble_eq_true rfl), (Nat.le_of_ble_eq_true rfl)⟩) 0 12 rfl rfl rfl hl.1 rfl (Nat.le_of_ble_eq_true rfl) dX12_goThrough_101 ⟨Nat.zero_le _, Nat.zero_le _⟩ (fun H locs hP hS => ?_)
        refine lv_goto (tgt := 73) C.1 C.2.1 dX12_goThrough_104 (by decide) ?_
        exact ih _ _ _ _ h hP hS hl
set_option maxHeartbeats 4000000 in
set_option maxRecDepth 100000 in
theorem wGX12_goThrough_0_a1_107 {p : Program} {l : Launch} {e : Env} {s : State} {m : MethodId} {args : Array Value} {below : List Frame} {meth : Method} {c : Code} {D : va_G} {cy : Nat → ClassId} {ad st : Nat → Nat} (C : Cx RX12 cX12_goThrough 5 none wsX12_goThrough p s m args meth c) (hK : Ky D [(cy 0, .int), (cy 1, .long), (cy 2, .boolean), (cy 3, .byte), (cy 4, .object "HissHorn$Text")] st s) (hJ : JM ad st) {r : Int32} {u' : SX}   (u : SX) (H : Heap) (locs : List Loc) (ls : Array Slot) (h : GX12_goThrough_0_a1_107  u = some (r, u')) (hP : va_P D vwCl (VM cy ad st u) H) (hS : va_S (Ax (AM ad) s.heap.size) s.heap H locs) (hl : lv_has ls 5 [(0, .ref (ad 0))]) : W p l e rmX12_goThrough_0_a1 s m args below meth c H locs 0 0 (MQ below (Qv D (VM cy ad st) (AM ad) s.heap.size r u') args s 0 0 (Ax (AM ad) s.heap.size)) (F0 m 107 ls []) := by
  unfold GX12_goThrough_0_a1_107 at h
  refine lv_aload_n C.1 C.2.1 dX12_goThrough_107 rfl (lv_at hl 0 rfl) ?_
  refine gM_0_fault C hX12_goThrough_0_a1_X12 hK hP mX12_goThrough_0_a1_6 dX12_goThrough_108 ?_
  refine lv_iconst (v := (-1)) C.1 C.2.1 dX12_goThrough_111 (by decide) ?_
  refine lv_icmp_ne (tgt := 128) C.1 C.2.1 dX12_goThrough_112 (by decide) (fun c112 => ?_) (fun c112 => ?_)
  · rw [if_neg c112] at h
    cases h
    exact rt_v C hP hS dX12_goThrough_128
  · rw [if_pos c112] at h
    refine lv_aload_n C.1 C.2.1 dX12_goThrough_115 rfl (lv_at hl 0 rfl) ?_
    obtain ⟨⟨r31, u32⟩, hc33, h⟩ := bd_some h
    try dsimp only at h
    refine cg_i (As := []) (rest := []) (AM_ge hJ) C hK hP hS (metX12_look_0 l D cy ad st hJ _  hc33) (cwV 0 C.2.2.2.2.2.1 gX12_goThrough_X12_look rfl rfl rfl (by decide +kernel) ⟨(Nat.le_of_ble_eq_true rfl), (Nat.le_of_ble_eq_true rfl)⟩) 0 12 rfl rfl rfl hl.1 rfl (Nat.le_of_ble_eq_true rfl) dX12_goThrough_116 ⟨Nat.zero_le _, Nat.zero_le _⟩ (fun H locs hP hS => ?_)
    refine lv_iconst (v := (-1)) C.1 C.2.1 dX12_goThrough_119 (by decide) ?_
    refine lv_icmp_eq (tgt := 128) C.1 C.2.1 dX12_goThrough_120 (by decide) (fun c120 => ?_) (fun c120 => ?_)
    · rw [if_pos c120] at h
      cases h
      exact rt_v C hP hS dX12_goThrough_128
    · rw [if_neg c120] at h
      refine lv_aload_n C.1 C.2.1 dX12_goThrough_123 rfl (lv_at hl 0 rfl) ?_
      obtain ⟨⟨r34, u35⟩, hc36, h⟩ := bd_some h
      try dsimp only at h
      refine cg_i (As := []) (rest := []) (AM_ge hJ) C hK hP hS (metX12_fails_0 l D cy ad st hJ _  hc36) (cwV 0 C.2.2.2.2.2.1 gX12_goThrough_X12_fails rfl rfl rfl (by decide +kernel) ⟨(Nat.le_of_ble_eq_true rfl), (Nat.le_of_ble_eq_true rfl)⟩) 0 12 rfl rfl rfl hl.1 rfl (Nat.le_of_ble_eq_true rfl) dX12_goThrough_124 ⟨Nat.zero_le _, Nat.zero_le _⟩ (fun H locs hP hS => ?_)
      refine lv_pop C.1 C.2.1 dX12_goThrough_127 rfl ?_
      cases h
      exact rt_v C hP hS dX12_goThrough_128
set_option maxHeartbeats 4000000 in
set_option maxRecDepth 100000 in
theorem wGX12_goThrough_0_a1_41 {p : Program} {l : Launch} {e : Env} {s : State} {m : MethodId} {args : Array Value} {below : List Frame} {meth : Method} {c : Code} {D : va_G} {cy : Nat → ClassId} {ad st : Nat → Nat} (C : Cx RX12 cX12_goThrough 5 none wsX12_goThrough p s m args meth c) (hK : Ky D [(cy 0, .int), (cy 1, .long), (cy 2, .boolean), (cy 3, .byte), (cy 4, .object "HissHorn$Text")] st s) (hJ : JM ad st) {r : Int32} {u' : SX}   (u : SX) (H : Heap) (locs : List Loc) (ls : Array Slot) (h : GX12_goThrough_0_a1_41  u = some (r, u')) (hP : va_P D vwCl (VM cy ad st u) H) (hS : va_S (Ax (AM ad) s.heap.size) s.heap H locs) (hl : lv_has ls 5 [(0, .ref (ad 0))]) : W p l e rmX12_goThrough_0_a1 s m args below meth c H locs 0 0 (MQ below (Qv D (VM cy ad st) (AM ad) s.heap.size r u') args s 0 0 (Ax (AM ad) s.heap.size)) (F0 m 41 ls [.ref (st 6), .ref (ad 0)]) := by
  unfold GX12_goThrough_0_a1_41 at h
  refine pM_0_allowed_6 C hX12_goThrough_0_a1_X12 hK hP hJ hS mX12_goThrough_0_a1_4 dX12_goThrough_41 (fun H locs hP hS => ?_)
  obtain ⟨u7, hu8, h⟩ := lt_some h
  rw [← hu8] at hP
  refine lv_aload_n C.1 C.2.1 dX12_goThrough_44 rfl (lv_at hl 0 rfl) ?_
  refine lv_iconst (v := 0) C.1 C.2.1 dX12_goThrough_45 (by decide) ?_
  refine pM_0_at C hX12_goThrough_0_a1_X12 hK hP hJ hS mX12_goThrough_0_a1_5 dX12_goThrough_46 (fun H locs hP hS => ?_)
  obtain ⟨u9, hu10, h⟩ := lt_some h
  rw [← hu10] at hP
  refine lv_aload_n C.1 C.2.1 dX12_goThrough_49 rfl (lv_at hl 0 rfl) ?_
  refine lv_iconst (v := (-1)) C.1 C.2.1 dX12_goThrough_50 (by decide) ?_
  refine pM_0_fault C hX12_goThrough_0_a1_X12 hK hP hJ hS mX12_goThrough_0_a1_6 dX12_goThrough_51 (fun H locs hP hS => ?_)
  obtain ⟨u11, hu12, h⟩ := lt_some h
  rw [← hu12] at hP
  refine lv_aload_n C.1 C.2.1 dX12_goThrough_54 rfl (lv_at hl 0 rfl) ?_
  refine lv_iconst (v := 0) C.1 C.2.1 dX12_goThrough_55 (by decide) ?_
  refine pM_0_deep C hX12_goThrough_0_a1_X12 hK hP hJ hS mX12_goThrough_0_a1_7 dX12_goThrough_56 (fun H locs hP hS => ?_)
  obtain ⟨u13, hu14, h⟩ := lt_some h
  rw [← hu14] at hP
  refine lv_aload_n C.1 C.2.1 dX12_goThrough_59 rfl (lv_at hl 0 rfl) ?_
  refine lv_iconst (v := 0) C.1 C.2.1 dX12_goThrough_60 (by decide) ?_
  obtain ⟨hg15, h⟩ := gd_some h
  refine pM_0_hasFound hg15 C hX12_goThrough_0_a1_X12 hK hP hJ hS mX12_goThrough_0_a1_8 dX12_goThrough_61 (fun H locs hP hS => ?_)
  obtain ⟨u16, hu17, h⟩ := lt_some h
  rw [← hu17] at hP
  refine lv_aload_n C.1 C.2.1 dX12_goThrough_64 rfl (lv_at hl 0 rfl) ?_
  refine lv_iconst (v := 0) C.1 C.2.1 dX12_goThrough_65 (by decide) ?_
  refine pM_0_found C hX12_goThrough_0_a1_X12 hK hP hJ hS mX12_goThrough_0_a1_9 dX12_goThrough_66 (fun H locs hP hS => ?_)
  obtain ⟨u18, hu19, h⟩ := lt_some h
  rw [← hu19] at hP
  refine lv_aload_n C.1 C.2.1 dX12_goThrough_69 rfl (lv_at hl 0 rfl) ?_
  obtain ⟨⟨r20, u21⟩, hc22, h⟩ := bd_some h
  try dsimp only at h
  refine cg_v (As := []) (rest := []) (AM_ge hJ) C hK hP hS (metX12_clause_0 l D cy ad st hJ _  hc22) (cwV 0 C.2.2.2.2.2.1 gX12_goThrough_X12_clause rfl rfl rfl (by decide +kernel) ⟨(Nat.le_of_ble_eq_true rfl), (Nat.le_of_ble_eq_true rfl)⟩) 0 12 rfl rfl rfl hl.1 rfl (Nat.le_of_ble_eq_true rfl) dX12_goThrough_70 ⟨Nat.zero_le _, Nat.zero_le _⟩ (fun H locs hP hS => ?_)
  exact wLX12_goThrough_0_a1_73 C hK hJ (wGX12_goThrough_0_a1_107 C hK hJ ) 5000 _ _ _ _ h hP hS hl
set_option maxHeartbeats 4000000 in
set_option maxRecDepth 100000 in
theorem wGX12_goThrough_0_a1_41a {p : Program} {l : Launch} {e : Env} {s : State} {m : MethodId} {args : Array Value} {below : List Frame} {meth : Method} {c : Code} {D : va_G} {cy : Nat → ClassId} {ad st : Nat → Nat} (C : Cx RX12 cX12_goThrough 5 none wsX12_goThrough p s m args meth c) (hK : Ky D [(cy 0, .int), (cy 1, .long), (cy 2, .boolean), (cy 3, .byte), (cy 4, .object "HissHorn$Text")] st s) (hJ : JM ad st) {r : Int32} {u' : SX}   (u : SX) (H : Heap) (locs : List Loc) (ls : Array Slot) (h : GX12_goThrough_0_a1_41a  u = some (r, u')) (hP : va_P D vwCl (VM cy ad st u) H) (hS : va_S (Ax (AM ad) s.heap.size) s.heap H locs) (hl : lv_has ls 5 [(0, .ref (ad 0))]) : W p l e rmX12_goThrough_0_a1 s m args below meth c H locs 0 0 (MQ below (Qv D (VM cy ad st) (AM ad) s.heap.size r u') args s 0 0 (Ax (AM ad) s.heap.size)) (F0 m 41 ls [.ref (st 5), .ref (ad 0)]) := by
  unfold GX12_goThrough_0_a1_41a at h
  refine pM_0_allowed_5 C hX12_goThrough_0_a1_X12 hK hP hJ hS mX12_goThrough_0_a1_4 dX12_goThrough_41 (fun H locs hP hS => ?_)
  obtain ⟨u37, hu38, h⟩ := lt_some h
  rw [← hu38] at hP
  refine lv_aload_n C.1 C.2.1 dX12_goThrough_44 rfl (lv_at hl 0 rfl) ?_
  refine lv_iconst (v := 0) C.1 C.2.1 dX12_goThrough_45 (by decide) ?_
  refine pM_0_at C hX12_goThrough_0_a1_X12 hK hP hJ hS mX12_goThrough_0_a1_5 dX12_goThrough_46 (fun H locs hP hS => ?_)
  obtain ⟨u39, hu40, h⟩ := lt_some h
  rw [← hu40] at hP
  refine lv_aload_n C.1 C.2.1 dX12_goThrough_49 rfl (lv_at hl 0 rfl) ?_
  refine lv_iconst (v := (-1)) C.1 C.2.1 dX12_goThrough_50 (by decide) ?_
  refine pM_0_fault C hX12_goThrough_0_a1_X12 hK hP hJ hS mX12_goThrough_0_a1_6 dX12_goThrough_51 (fun H locs hP hS => ?_)
  obtain ⟨u41, hu42, h⟩ := lt_some h
  rw [← hu42] at hP
  refine lv_aload_n C.1 C.2.1 dX12_goThrough_54 rfl (lv_at hl 0 rfl) ?_
  refine lv_iconst (v := 0) C.1 C.2.1 dX12_goThrough_55 (by decide) ?_
  refine pM_0_deep C hX12_goThrough_0_a1_X12 hK hP hJ hS mX12_goThrough_0_a1_7 dX12_goThrough_56 (fun H locs hP hS => ?_)
  obtain ⟨u43, hu44, h⟩ := lt_some h
  rw [← hu44] at hP
  refine lv_aload_n C.1 C.2.1 dX12_goThrough_59 rfl (lv_at hl 0 rfl) ?_
  refine lv_iconst (v := 0) C.1 C.2.1 dX12_goThrough_60 (by decide) ?_
  obtain ⟨hg45, h⟩ := gd_some h
  refine pM_0_hasFound hg45 C hX12_goThrough_0_a1_X12 hK hP hJ hS mX12_goThrough_0_a1_8 dX12_goThrough_61 (fun H locs hP hS => ?_)
  obtain ⟨u46, hu47, h⟩ := lt_some h
  rw [← hu47] at hP
  refine lv_aload_n C.1 C.2.1 dX12_goThrough_64 rfl (lv_at hl 0 rfl) ?_
  refine lv_iconst (v := 0) C.1 C.2.1 dX12_goThrough_65 (by decide) ?_
  refine pM_0_found C hX12_goThrough_0_a1_X12 hK hP hJ hS mX12_goThrough_0_a1_9 dX12_goThrough_66 (fun H locs hP hS => ?_)
  obtain ⟨u48, hu49, h⟩ := lt_some h
  rw [← hu49] at hP
  refine lv_aload_n C.1 C.2.1 dX12_goThrough_69 rfl (lv_at hl 0 rfl) ?_
  obtain ⟨⟨r50, u51⟩, hc52, h⟩ := bd_some h
  try dsimp only at h
  refine cg_v (As := []) (rest := []) (AM_ge hJ) C hK hP hS (metX12_clause_0 l D cy ad st hJ _  hc52) (cwV 0 C.2.2.2.2.2.1 gX12_goThrough_X12_clause rfl rfl rfl (by decide +kernel) ⟨(Nat.le_of_ble_eq_true rfl), (Nat.le_of_ble_eq_true rfl)⟩) 0 12 rfl rfl rfl hl.1 rfl (Nat.le_of_ble_eq_true rfl) dX12_goThrough_70 ⟨Nat.zero_le _, Nat.zero_le _⟩ (fun H locs hP hS => ?_)
  exact wLX12_goThrough_0_a1_73 C hK hJ (wGX12_goThrough_0_a1_107 C hK hJ ) 5000 _ _ _ _ h hP hS hl
set_option maxHeartbeats 4000000 in
set_option maxRecDepth 100000 in
theorem wGX12_goThrough_0_a1_41b {p : Program} {l : Launch} {e : Env} {s : State} {m : MethodId} {args : Array Value} {below : List Frame} {meth : Method} {c : Code} {D : va_G} {cy : Nat → ClassId} {ad st : Nat → Nat} (C : Cx RX12 cX12_goThrough 5 none wsX12_goThrough p s m args meth c) (hK : Ky D [(cy 0, .int), (cy 1, .long), (cy 2, .boolean), (cy 3, .byte), (cy 4, .object "HissHorn$Text")] st s) (hJ : JM ad st) {r : Int32} {u' : SX}   (u : SX) (H : Heap) (locs : List Loc) (ls : Array Slot) (h : GX12_goThrough_0_a1_41b  u = some (r, u')) (hP : va_P D vwCl (VM cy ad st u) H) (hS : va_S (Ax (AM ad) s.heap.size) s.heap H locs) (hl : lv_has ls 5 [(0, .ref (ad 0))]) : W p l e rmX12_goThrough_0_a1 s m args below meth c H locs 0 0 (MQ below (Qv D (VM cy ad st) (AM ad) s.heap.size r u') args s 0 0 (Ax (AM ad) s.heap.size)) (F0 m 41 ls [.ref (st 4), .ref (ad 0)]) := by
  unfold GX12_goThrough_0_a1_41b at h
  refine pM_0_allowed_4 C hX12_goThrough_0_a1_X12 hK hP hJ hS mX12_goThrough_0_a1_4 dX12_goThrough_41 (fun H locs hP hS => ?_)
  obtain ⟨u53, hu54, h⟩ := lt_some h
  rw [← hu54] at hP
  refine lv_aload_n C.1 C.2.1 dX12_goThrough_44 rfl (lv_at hl 0 rfl) ?_
  refine lv_iconst (v := 0) C.1 C.2.1 dX12_goThrough_45 (by decide) ?_
  refine pM_0_at C hX12_goThrough_0_a1_X12 hK hP hJ hS mX12_goThrough_0_a1_5 dX12_goThrough_46 (fun H locs hP hS => ?_)
  obtain ⟨u55, hu56, h⟩ := lt_some h
  rw [← hu56] at hP
  refine lv_aload_n C.1 C.2.1 dX12_goThrough_49 rfl (lv_at hl 0 rfl) ?_
  refine lv_iconst (v := (-1)) C.1 C.2.1 dX12_goThrough_50 (by decide) ?_
  refine pM_0_fault C hX12_goThrough_0_a1_X12 hK hP hJ hS mX12_goThrough_0_a1_6 dX12_goThrough_51 (fun H locs hP hS => ?_)
  obtain ⟨u57, hu58, h⟩ := lt_some h
  rw [← hu58] at hP
  refine lv_aload_n C.1 C.2.1 dX12_goThrough_54 rfl (lv_at hl 0 rfl) ?_
  refine lv_iconst (v := 0) C.1 C.2.1 dX12_goThrough_55 (by decide) ?_
  refine pM_0_deep C hX12_goThrough_0_a1_X12 hK hP hJ hS mX12_goThrough_0_a1_7 dX12_goThrough_56 (fun H locs hP hS => ?_)
  obtain ⟨u59, hu60, h⟩ := lt_some h
  rw [← hu60] at hP
  refine lv_aload_n C.1 C.2.1 dX12_goThrough_59 rfl (lv_at hl 0 rfl) ?_
  refine lv_iconst (v := 0) C.1 C.2.1 dX12_goThrough_60 (by decide) ?_
  obtain ⟨hg61, h⟩ := gd_some h
  refine pM_0_hasFound hg61 C hX12_goThrough_0_a1_X12 hK hP hJ hS mX12_goThrough_0_a1_8 dX12_goThrough_61 (fun H locs hP hS => ?_)
  obtain ⟨u62, hu63, h⟩ := lt_some h
  rw [← hu63] at hP
  refine lv_aload_n C.1 C.2.1 dX12_goThrough_64 rfl (lv_at hl 0 rfl) ?_
  refine lv_iconst (v := 0) C.1 C.2.1 dX12_goThrough_65 (by decide) ?_
  refine pM_0_found C hX12_goThrough_0_a1_X12 hK hP hJ hS mX12_goThrough_0_a1_9 dX12_goThrough_66 (fun H locs hP hS => ?_)
  obtain ⟨u64, hu65, h⟩ := lt_some h
  rw [← hu65] at hP
  refine lv_aload_n C.1 C.2.1 dX12_goThrough_69 rfl (lv_at hl 0 rfl) ?_
  obtain ⟨⟨r66, u67⟩, hc68, h⟩ := bd_some h
  try dsimp only at h
  refine cg_v (As := []) (rest := []) (AM_ge hJ) C hK hP hS (metX12_clause_0 l D cy ad st hJ _  hc68) (cwV 0 C.2.2.2.2.2.1 gX12_goThrough_X12_clause rfl rfl rfl (by decide +kernel) ⟨(Nat.le_of_ble_eq_true rfl), (Nat.le_of_ble_eq_true rfl)⟩) 0 12 rfl rfl rfl hl.1 rfl (Nat.le_of_ble_eq_true rfl) dX12_goThrough_70 ⟨Nat.zero_le _, Nat.zero_le _⟩ (fun H locs hP hS => ?_)
  exact wLX12_goThrough_0_a1_73 C hK hJ (wGX12_goThrough_0_a1_107 C hK hJ ) 5000 _ _ _ _ h hP hS hl
set_option maxHeartbeats 4000000 in
set_option maxRecDepth 100000 in
theorem wX12_goThrough_0_a1 {p : Program} {l : Launch} {e : Env} {s : State} {m : MethodId} {args : Array Value} {below : List Frame} {meth : Method} {c : Code} {D : va_G} {cy : Nat → ClassId} {ad st : Nat → Nat} (C : Cx RX12 cX12_goThrough 5 none wsX12_goThrough p s m args meth c) (hK : Ky D [(cy 0, .int), (cy 1, .long), (cy 2, .boolean), (cy 3, .byte), (cy 4, .object "HissHorn$Text")] st s) (hJ : JM ad st) (x2 : Int32) (x3 : Int32) (x4 : Int32) {u : SX} {r : Int32} {u' : SX} {H : Heap} {locs : List Loc} {ls : Array Slot} (h : fX12_goThrough_0_a1 x2 x3 x4 u = some (r, u')) (hP : va_P D vwCl (VM cy ad st u) H) (hS : va_S (Ax (AM ad) s.heap.size) s.heap H locs) (hl : lv_has ls 5 [(0, .ref (ad 0)), (1, .ref (ad 1)), (2, .int x2), (3, .int x3), (4, .int x4)]) : W p l e rmX12_goThrough_0_a1 s m args below meth c H locs 0 0 (MQ below (Qv D (VM cy ad st) (AM ad) s.heap.size r u') args s 0 0 (Ax (AM ad) s.heap.size)) (F0 m 0 ls []) := by
  unfold fX12_goThrough_0_a1 at h
  refine lv_aload_n C.1 C.2.1 dX12_goThrough_0 rfl (lv_at hl 0 rfl) ?_
  refine lv_aload_n C.1 C.2.1 dX12_goThrough_1 rfl (lv_at hl 1 rfl) ?_
  refine pM_0_text_1 C hX12_goThrough_0_a1_X12 hK hP hJ hS mX12_goThrough_0_a1_1 dX12_goThrough_2 (fun H locs hP hS => ?_)
  obtain ⟨u1, hu2, h⟩ := lt_some h
  rw [← hu2] at hP
  refine lv_aload_n C.1 C.2.1 dX12_goThrough_5 rfl (lv_at hl 0 rfl) ?_
  refine lv_iload_n C.1 C.2.1 dX12_goThrough_6 rfl (lv_at hl 2 rfl) ?_
  refine pM_0_begins C hX12_goThrough_0_a1_X12 hK hP hJ hS mX12_goThrough_0_a1_2 dX12_goThrough_7 (fun H locs hP hS => ?_)
  obtain ⟨u3, hu4, h⟩ := lt_some h
  rw [← hu4] at hP
  refine lv_aload_n C.1 C.2.1 dX12_goThrough_10 rfl (lv_at hl 0 rfl) ?_
  refine lv_iload_n C.1 C.2.1 dX12_goThrough_11 rfl (lv_at hl 3 rfl) ?_
  refine pM_0_ends C hX12_goThrough_0_a1_X12 hK hP hJ hS mX12_goThrough_0_a1_3 dX12_goThrough_12 (fun H locs hP hS => ?_)
  obtain ⟨u5, hu6, h⟩ := lt_some h
  rw [← hu6] at hP
  refine lv_aload_n C.1 C.2.1 dX12_goThrough_15 rfl (lv_at hl 0 rfl) ?_
  refine lv_iload C.1 C.2.1 dX12_goThrough_16 (lv_at hl 4 rfl) ?_
  refine lv_if_ne (tgt := 26) C.1 C.2.1 dX12_goThrough_18 (by decide) (fun c18 => ?_) (fun c18 => ?_)
  · rw [if_neg c18] at h
    refine lv_iload C.1 C.2.1 dX12_goThrough_26 (lv_at hl 4 rfl) ?_
    refine lv_iconst (v := 1) C.1 C.2.1 dX12_goThrough_28 (by decide) ?_
    refine lv_icmp_ne (tgt := 38) C.1 C.2.1 dX12_goThrough_29 (by decide) (fun c29 => ?_) (fun c29 => ?_)
    · rw [if_neg c29] at h
      refine xx_ldcwS C.1 C.2.1 C.2.2.2.2.1 (hK.2.2.1 (RX12, 262, "ngbkt", 6) (by decide +kernel)) dX12_goThrough_38 ?_
      exact wGX12_goThrough_0_a1_41 C hK hJ _ _ _ _ h hP hS (lv_sub hl [0] rfl)
    · rw [if_pos c29] at h
      refine xx_ldcwS C.1 C.2.1 C.2.2.2.2.1 (hK.2.2.1 (RX12, 260, "la", 5) (by decide +kernel)) dX12_goThrough_32 ?_
      refine lv_goto (tgt := 41) C.1 C.2.1 dX12_goThrough_35 (by decide) ?_
      exact wGX12_goThrough_0_a1_41a C hK hJ _ _ _ _ h hP hS (lv_sub hl [0] rfl)
  · rw [if_pos c18] at h
    refine va_ldcS C.1 C.2.1 C.2.2.2.2.1 (hK.2.2.1 (RX12, 29, "dahewl", 4) (by decide +kernel)) dX12_goThrough_21 ?_
    refine lv_goto (tgt := 41) C.1 C.2.1 dX12_goThrough_23 (by decide) ?_
    exact wGX12_goThrough_0_a1_41b C hK hJ _ _ _ _ h hP hS (lv_sub hl [0] rfl)
theorem metX12_goThrough_0_a1 (l : Launch) (D : va_G) (cy : Nat → ClassId) (ad st : Nat → Nat) (hJ : JM ad st) (sz : Nat) (x2 : Int32) (x3 : Int32) (x4 : Int32) {u : SX} {r : Int32} {u' : SX} (h : fX12_goThrough_0_a1 x2 x3 x4 u = some (r, u')) : Met l yX12_goThrough wsX12_goThrough rmX12_goThrough_0_a1 (va_Pc [.ref (ad 0), .ref (ad 1), .int x2, .int x3, .int x4] (Px D [(cy 0, .int), (cy 1, .long), (cy 2, .boolean), (cy 3, .byte), (cy 4, .object "HissHorn$Text")] st (VM cy ad st) sz u)) (Qv D (VM cy ad st) (AM ad) sz r u') 0 0 (Ax (AM ad) sz) := by
  refine Met.ofW (cc := cX12_goThrough) (maxL := 5) (ret := none) (by decide) rfl ?_
  intro p e s m args below meth c s₁ B hml hv
  obtain ⟨rfl, hsz, hP, hK⟩ := hv
  subst hsz
  have C : Cx RX12 cX12_goThrough 5 none wsX12_goThrough p s m _ meth c := ⟨B.exec, B.bytes, hml, B.returns, findClass_of_methodNamed B.named, atoms_spec (ws := wsX12_goThrough) B.pre, B.notSynchronized⟩
  have hl := lv_entry ([.ref (ad 0), .ref (ad 1), .int x2, .int x3, .int x4]) (n := 5) (Nat.le_of_ble_eq_true rfl)
  rw [lg_entry_eq]
  exact wX12_goThrough_0_a1 C hK hJ x2 x3 x4 h hP va_S.rf hl
