set_option maxRecDepth 20000 in
theorem ggX12_sum_X12_within : GoodIn wsX12_sum wsX12_within := goodIn_r _ [16, 17, 18, 19, 20, 21, 22, 23, 24, 25] rfl (by decide +kernel)
set_option maxRecDepth 20000 in
theorem gX12_sum_X12_within : GoodIn wsX12_sum (va_wsS RX12 230 yX12_within wsX12_within) := goodIn_app (goodIn_of _ (by decide +kernel)) ggX12_sum_X12_within
theorem dX12_sum_77 : decode cX12_sum 77 = .ok (.invokestatic 230, 3) := by decide +kernel
theorem dX12_sum_80 : decode cX12_sum 80 = .ok (.istore_n 1, 1) := by decide +kernel
theorem dX12_sum_81 : decode cX12_sum 81 = .ok (.goto (-76), 3) := by decide +kernel
theorem dX12_sum_45 : decode cX12_sum 45 = .ok (.istore_n 2, 1) := by decide +kernel
theorem dX12_sum_46 : decode cX12_sum 46 = .ok (.aload_n 0, 1) := by decide +kernel
theorem dX12_sum_47 : decode cX12_sum 47 = .ok (.dup, 1) := by decide +kernel
theorem dX12_sum_48 : decode cX12_sum 48 = .ok (.getfield 173, 3) := by decide +kernel
theorem dX12_sum_51 : decode cX12_sum 51 = .ok (.iconst 1, 1) := by decide +kernel
theorem dX12_sum_52 : decode cX12_sum 52 = .ok (.iadd, 1) := by decide +kernel
theorem dX12_sum_53 : decode cX12_sum 53 = .ok (.putfield 173, 3) := by decide +kernel
theorem dX12_sum_56 : decode cX12_sum 56 = .ok (.aload_n 0, 1) := by decide +kernel
set_option maxRecDepth 20000 in
theorem ggX12_sum_X12_term : GoodIn wsX12_sum wsX12_term := goodIn_r _ [137, 1, 2, 138, 139, 140, 6, 7, 8, 9, 10, 11, 12, 13, 14, 15, 16, 17, 18, 19, 20, 21, 22, 23, 24, 25, 26, 27, 28, 29, 30, 31, 32, 33, 34, 35, 36, 37, 38, 39, 40, 41, 42, 43, 44, 45, 46, 47, 48, 49, 50, 51, 52, 53, 54, 55, 56, 57, 58, 59, 60, 61, 62, 63, 64, 65, 66, 67, 68, 69, 70, 71, 72, 73, 74, 75, 76, 77, 78, 79, 80, 81, 82, 83, 84, 85, 86, 87, 88, 89, 90, 91, 92, 93, 94, 95, 96, 97, 98, 99, 100, 101, 102, 103, 104, 105, 106, 107, 108, 109, 110, 111, 112, 113, 114, 115, 116, 117, 118, 119, 120, 121, 122, 123, 124, 125, 126, 127, 128, 129, 130, 131, 132, 133, 134, 135, 136, 0, 3, 4, 5, 141, 142, 143, 144, 145, 146, 147, 148, 149, 150, 151, 152, 153, 154, 155, 156, 157, 158, 159, 160, 161, 162, 163, 164, 165, 166, 167, 168, 169, 170, 171, 172, 173, 174, 175, 176, 177, 178, 179, 180, 181, 182, 183, 184, 185, 186, 187, 188, 189, 190, 191, 192, 193, 194, 195, 196, 197, 198, 199, 200, 201, 202, 203, 204, 205, 206, 207, 208, 209] rfl (by decide +kernel)
set_option maxRecDepth 20000 in
theorem gX12_sum_X12_term : GoodIn wsX12_sum (wsV RX12 234 RX12 yX12_term wsX12_term) := goodIn_app (goodIn_of _ (by decide +kernel)) ggX12_sum_X12_term
theorem dX12_sum_57 : decode cX12_sum 57 = .ok (.invokevirtual 234, 3) := by decide +kernel
theorem dX12_sum_60 : decode cX12_sum 60 = .ok (.i2l, 1) := by decide +kernel
theorem dX12_sum_61 : decode cX12_sum 61 = .ok (.lstore_n 3, 1) := by decide +kernel
theorem dX12_sum_62 : decode cX12_sum 62 = .ok (.iload_n 2, 1) := by decide +kernel
theorem dX12_sum_63 : decode cX12_sum 63 = .ok (.ifCond .eq 10, 3) := by decide +kernel
theorem dX12_sum_73 : decode cX12_sum 73 = .ok (.iload_n 1, 1) := by decide +kernel
theorem dX12_sum_74 : decode cX12_sum 74 = .ok (.i2l, 1) := by decide +kernel
theorem dX12_sum_75 : decode cX12_sum 75 = .ok (.lload_n 3, 1) := by decide +kernel
theorem dX12_sum_76 : decode cX12_sum 76 = .ok (.lsub, 1) := by decide +kernel
theorem dX12_sum_66 : decode cX12_sum 66 = .ok (.iload_n 1, 1) := by decide +kernel
theorem dX12_sum_67 : decode cX12_sum 67 = .ok (.i2l, 1) := by decide +kernel
theorem dX12_sum_68 : decode cX12_sum 68 = .ok (.lload_n 3, 1) := by decide +kernel
theorem dX12_sum_69 : decode cX12_sum 69 = .ok (.ladd, 1) := by decide +kernel
theorem dX12_sum_70 : decode cX12_sum 70 = .ok (.goto 7, 3) := by decide +kernel
theorem dX12_sum_31 : decode cX12_sum 31 = .ok (.aload_n 0, 1) := by decide +kernel
set_option maxRecDepth 20000 in
theorem ggX12_sum_X12_look : GoodIn wsX12_sum wsX12_look := goodIn_r _ [10, 2, 11, 12, 13, 141, 142, 143, 144, 145, 146, 147, 148, 149, 150, 151, 152, 153, 154, 155, 156, 157, 158, 159, 160, 161, 162, 163, 164, 165, 166, 167, 168, 169, 170, 171, 172, 173, 174, 175, 176, 177, 178, 179, 180, 181, 182, 183, 184, 185, 186, 187, 188, 189, 190, 191, 192, 193, 194, 195, 196, 197, 198, 199, 200, 201, 202, 203, 204, 205, 206, 207, 208, 209] rfl (by decide +kernel)
set_option maxRecDepth 20000 in
theorem gX12_sum_X12_look : GoodIn wsX12_sum (wsV RX12 192 RX12 yX12_look wsX12_look) := goodIn_app (goodIn_of _ (by decide +kernel)) ggX12_sum_X12_look
theorem dX12_sum_32 : decode cX12_sum 32 = .ok (.invokevirtual 192, 3) := by decide +kernel
theorem dX12_sum_35 : decode cX12_sum 35 = .ok (.bipush 43, 2) := by decide +kernel
theorem dX12_sum_37 : decode cX12_sum 37 = .ok (.if_icmp .ne 7, 3) := by decide +kernel
theorem dX12_sum_44 : decode cX12_sum 44 = .ok (.iconst 0, 1) := by decide +kernel
theorem dX12_sum_40 : decode cX12_sum 40 = .ok (.iconst 1, 1) := by decide +kernel
theorem dX12_sum_41 : decode cX12_sum 41 = .ok (.goto 4, 3) := by decide +kernel
theorem dX12_sum_5 : decode cX12_sum 5 = .ok (.aload_n 0, 1) := by decide +kernel
theorem dX12_sum_6 : decode cX12_sum 6 = .ok (.getfield 182, 3) := by decide +kernel
theorem dX12_sum_9 : decode cX12_sum 9 = .ok (.iconst (-1), 1) := by decide +kernel
theorem dX12_sum_10 : decode cX12_sum 10 = .ok (.if_icmp .ne 74, 3) := by decide +kernel
theorem dX12_sum_84 : decode cX12_sum 84 = .ok (.iload_n 1, 1) := by decide +kernel
theorem dX12_sum_85 : decode cX12_sum 85 = .ok (.ireturn, 1) := by decide +kernel
theorem dX12_sum_13 : decode cX12_sum 13 = .ok (.aload_n 0, 1) := by decide +kernel
theorem dX12_sum_14 : decode cX12_sum 14 = .ok (.invokevirtual 192, 3) := by decide +kernel
theorem dX12_sum_17 : decode cX12_sum 17 = .ok (.bipush 43, 2) := by decide +kernel
theorem dX12_sum_19 : decode cX12_sum 19 = .ok (.if_icmp .eq 12, 3) := by decide +kernel
theorem dX12_sum_22 : decode cX12_sum 22 = .ok (.aload_n 0, 1) := by decide +kernel
theorem dX12_sum_23 : decode cX12_sum 23 = .ok (.invokevirtual 192, 3) := by decide +kernel
theorem dX12_sum_26 : decode cX12_sum 26 = .ok (.bipush 45, 2) := by decide +kernel
theorem dX12_sum_28 : decode cX12_sum 28 = .ok (.if_icmp .ne 56, 3) := by decide +kernel
theorem dX12_sum_0 : decode cX12_sum 0 = .ok (.aload_n 0, 1) := by decide +kernel
theorem dX12_sum_1 : decode cX12_sum 1 = .ok (.invokevirtual 234, 3) := by decide +kernel
theorem dX12_sum_4 : decode cX12_sum 4 = .ok (.istore_n 1, 1) := by decide +kernel
/-- HissHornModel.sum()I of cell 0 -/
theorem hX12_sum_0_X12 : ∀ w ∈ u_ws RX12 TX12 69, w ∈ wsX12_sum := fun w h => (List.mem_cons_of_mem _ (List.mem_append_right _ h))
theorem mX12_sum_0_1 : Cond.fieldLink RX12 182 "HissHornModel" "fault" "I" ∈ wsX12_sum := (List.mem_cons_of_mem _ (List.mem_append_left _ (List.mem_append_left _ (List.mem_of_getElem? (i := 0) rfl))))
theorem mX12_sum_0_2 : Cond.fieldLink RX12 173 "HissHornModel" "at" "I" ∈ wsX12_sum := (List.mem_cons_of_mem _ (List.mem_append_left _ (List.mem_append_left _ (List.mem_of_getElem? (i := 1) rfl))))
def GX12_sum_0_77 (rc : Nat → Int32 → SX → Option (Int32 × SX)) (k5 : Int32 → SX → Option (Int32 × SX)) (y0 : Int64) (u : SX) : Option (Int32 × SX) := ((fX12_within y0).bind fun r17 => (k5 r17 u))
def GX12_sum_0_45 (rc : Nat → Int32 → SX → Option (Int32 × SX)) (k5 : Int32 → SX → Option (Int32 × SX)) (z1 : Int32) (y0 : Int32) (u : SX) : Option (Int32 × SX) := (lt (sI u 6 ((u.1 6) + 1)) fun u10 => ((rc 1  0 u10).bind fun q => match q with | (r12, u13) => (lt (r12.toInt64) fun v15 => (if y0 = 0 then (GX12_sum_0_77 rc k5 ((z1.toInt64) - v15) u13) else (GX12_sum_0_77 rc k5 ((z1.toInt64) + v15) u13)))))
def GX12_sum_0_31 (rc : Nat → Int32 → SX → Option (Int32 × SX)) (k5 : Int32 → SX → Option (Int32 × SX)) (z1 : Int32) (u : SX) : Option (Int32 × SX) := ((fX12_look_0  u).bind fun q => match q with | (r7, u8) => (if r7 = 43 then (GX12_sum_0_45 rc k5 z1 1 u8) else (GX12_sum_0_45 rc k5 z1 0 u8)))
def LX12_sum_0_5 (rc : Nat → Int32 → SX → Option (Int32 × SX))  : Nat → Int32 → SX → Option (Int32 × SX)
  | 0, _, _ => none
  | n + 1, z1, u => (if (u.1 7) = (-1) then ((fX12_look_0  u).bind fun q => match q with | (r4, u5) => (if r4 = 43 then (GX12_sum_0_31 rc (LX12_sum_0_5 rc n) z1 u5) else ((fX12_look_0  u5).bind fun q => match q with | (r20, u21) => (if r20 = 45 then (GX12_sum_0_31 rc (LX12_sum_0_5 rc n) z1 u21) else (some (z1, u21)))))) else (some (z1, u)))
def fX12_sum_0 (rc : Nat → Int32 → SX → Option (Int32 × SX))  (u : SX) : Option (Int32 × SX) := ((rc 1  0 u).bind fun q => match q with | (r1, u2) => (LX12_sum_0_5 rc  5000 r1 u2))
set_option maxHeartbeats 4000000 in
set_option maxRecDepth 100000 in
theorem wGX12_sum_0_77 {p : Program} {l : Launch} {e : Env} {s : State} {m : MethodId} {args : Array Value} {below : List Frame} {meth : Method} {c : Code} {D : va_G} {cy : Nat → ClassId} {ad st : Nat → Nat} (C : Cx RX12 cX12_sum 5 (some .int) wsX12_sum p s m args meth c) (hK : Ky D [(cy 0, .int), (cy 1, .long), (cy 2, .boolean), (cy 3, .byte), (cy 4, .object "HissHorn$Text")] st s) (hJ : JM ad st) {rc : Nat → Int32 → SX → Option (Int32 × SX)} {dd : Nat} (hrc : hRX12sumg l D cy ad st rc dd) {r : Int32} {u' : SX} {k5 : Int32 → SX → Option (Int32 × SX)} (hk5 : ∀ (z1 : Int32) (u : SX) (H : Heap) (locs : List Loc) (ls : Array Slot), k5 z1 u = some (r, u') → va_P D vwCl (VM cy ad st u) H → va_S (Ax (AM ad) s.heap.size) s.heap H locs → lv_has ls 5 [(0, .ref (ad 0)), (1, .int z1)] → W p l e (rmX12sumg (dd + 1)) s m args below meth c H locs 0 0 (MQ below (Qi D (VM cy ad st) (AM ad) s.heap.size r u') args s 0 0 (Ax (AM ad) s.heap.size)) (F0 m 5 ls [])) (y0 : Int64) (u : SX) (H : Heap) (locs : List Loc) (ls : Array Slot) (h : GX12_sum_0_77 rc k5 y0 u = some (r, u')) (hP : va_P D vwCl (VM cy ad st u) H) (hS : va_S (Ax (AM ad) s.heap.size) s.heap H locs) (hl : lv_has ls 5 [(0, .ref (ad 0))]) : W p l e (rmX12sumg (dd + 1)) s m args below meth c H locs 0 0 (MQ below (Qi D (VM cy ad st) (AM ad) s.heap.size r u') args s 0 0 (Ax (AM ad) s.heap.size)) (F0 m 77 ls [.long y0]) := by
  unfold GX12_sum_0_77 at h
  obtain ⟨r17, hc19, h⟩ := bd_some h
  refine cs_i (As := [.long y0]) (rest := []) (AM_ge hJ) C hK hP hS (metX12_within l D cy st _ y0 hc19) (va_cwS 1 C.2.2.2.2.2.1 gX12_sum_X12_within rfl rfl rfl (by decide +kernel) ⟨(Nat.le_trans (m := 4) (Nat.le_of_ble_eq_true rfl) (rmX12sumg_f _)), (Nat.le_trans (m := 91) (Nat.le_of_ble_eq_true rfl) (rmX12sumg_l _))⟩) rfl hl.1 rfl (Nat.le_of_ble_eq_true rfl) dX12_sum_77 ⟨Nat.zero_le _, Nat.zero_le _⟩ (fun H locs hP hS => ?_)
  refine lv_istore_n (lv' := [(1, .int r17), (0, .ref (ad 0))]) C.1 C.2.1 dX12_sum_80 rfl hl (by decide) rfl (fun ls hl => ?_)
  replace hl := lv_sub (l' := [(0, .ref (ad 0)), (1, .int r17)]) hl [1, 0] rfl
  refine lv_goto (tgt := 5) C.1 C.2.1 dX12_sum_81 (by decide) ?_
  exact hk5 _ _ _ _ _ h hP hS hl
set_option maxHeartbeats 4000000 in
set_option maxRecDepth 100000 in
theorem wGX12_sum_0_45 {p : Program} {l : Launch} {e : Env} {s : State} {m : MethodId} {args : Array Value} {below : List Frame} {meth : Method} {c : Code} {D : va_G} {cy : Nat → ClassId} {ad st : Nat → Nat} (C : Cx RX12 cX12_sum 5 (some .int) wsX12_sum p s m args meth c) (hK : Ky D [(cy 0, .int), (cy 1, .long), (cy 2, .boolean), (cy 3, .byte), (cy 4, .object "HissHorn$Text")] st s) (hJ : JM ad st) {rc : Nat → Int32 → SX → Option (Int32 × SX)} {dd : Nat} (hrc : hRX12sumg l D cy ad st rc dd) {r : Int32} {u' : SX} {k5 : Int32 → SX → Option (Int32 × SX)} (hk5 : ∀ (z1 : Int32) (u : SX) (H : Heap) (locs : List Loc) (ls : Array Slot), k5 z1 u = some (r, u') → va_P D vwCl (VM cy ad st u) H → va_S (Ax (AM ad) s.heap.size) s.heap H locs → lv_has ls 5 [(0, .ref (ad 0)), (1, .int z1)] → W p l e (rmX12sumg (dd + 1)) s m args below meth c H locs 0 0 (MQ below (Qi D (VM cy ad st) (AM ad) s.heap.size r u') args s 0 0 (Ax (AM ad) s.heap.size)) (F0 m 5 ls [])) (z1 : Int32) (y0 : Int32) (u : SX) (H : Heap) (locs : List Loc) (ls : Array Slot) (h : GX12_sum_0_45 rc k5 z1 y0 u = some (r, u')) (hP : va_P D vwCl (VM cy ad st u) H) (hS : va_S (Ax (AM ad) s.heap.size) s.heap H locs) (hl : lv_has ls 5 [(0, .ref (ad 0)), (1, .int z1)]) : W p l e (rmX12sumg (dd + 1)) s m args below meth c H locs 0 0 (MQ below (Qi D (VM cy ad st) (AM ad) s.heap.size r u') args s 0 0 (Ax (AM ad) s.heap.size)) (F0 m 45 ls [.int y0]) := by
  unfold GX12_sum_0_45 at h
  refine lv_istore_n (lv' := [(2, .int y0), (0, .ref (ad 0)), (1, .int z1)]) C.1 C.2.1 dX12_sum_45 rfl hl (by decide) rfl (fun ls hl => ?_)
  replace hl := lv_sub (l' := [(0, .ref (ad 0)), (1, .int z1), (2, .int y0)]) hl [1, 2, 0] rfl
  refine lv_aload_n C.1 C.2.1 dX12_sum_46 rfl (lv_at hl 0 rfl) ?_
  refine lv_dup C.1 C.2.1 dX12_sum_47 rfl ?_
  refine gM_0_at C hX12_sum_0_X12 hK hP mX12_sum_0_2 dX12_sum_48 ?_
  refine lv_iconst (v := 1) C.1 C.2.1 dX12_sum_51 (by decide) ?_
  refine lv_iadd C.1 C.2.1 dX12_sum_52 ?_
  refine pM_0_at C hX12_sum_0_X12 hK hP hJ hS mX12_sum_0_2 dX12_sum_53 (fun H locs hP hS => ?_)
  obtain ⟨u10, hu11, h⟩ := lt_some h
  rw [← hu11] at hP
  refine lv_aload_n C.1 C.2.1 dX12_sum_56 rfl (lv_at hl 0 rfl) ?_
  obtain ⟨⟨r12, u13⟩, hc14, h⟩ := bd_some h
  try dsimp only at h
  refine cg_i (As := []) (rest := []) (AM_ge hJ) C hK hP hS (hrc.2.1 _  _ _ _ hc14) (cwV 0 C.2.2.2.2.2.1 gX12_sum_X12_term rfl rfl rfl (by decide +kernel) ⟨rmX12sumg_sf dd, rmX12sumg_sl dd (k := 8 + (5 + 11)) (Nat.le_of_ble_eq_true rfl)⟩) 0 12 rfl rfl rfl hl.1 rfl (Nat.le_of_ble_eq_true rfl) dX12_sum_57 ⟨Nat.zero_le _, Nat.zero_le _⟩ (fun H locs hP hS => ?_)
  refine lv_i2l (v := r12.toInt64) C.1 C.2.1 dX12_sum_60 rfl ?_
  refine lv_topl (fun v15 hv16 => ?_)
  replace h := lt_e hv16 h
  try dsimp only at h
  refine lv_lstore_n (lv' := [(3, .long v15), (0, .ref (ad 0)), (1, .int z1), (2, .int y0)]) C.1 C.2.1 dX12_sum_61 rfl hl (by decide) rfl (fun ls hl => ?_)
  replace hl := lv_sub (l' := [(0, .ref (ad 0)), (1, .int z1), (2, .int y0), (3, .long v15)]) hl [1, 2, 3, 0] rfl
  refine lv_iload_n C.1 C.2.1 dX12_sum_62 rfl (lv_at hl 2 rfl) ?_
  refine lv_if_eq (tgt := 73) C.1 C.2.1 dX12_sum_63 (by decide) (fun c63 => ?_) (fun c63 => ?_)
  · rw [if_pos c63] at h
    refine lv_iload_n C.1 C.2.1 dX12_sum_73 rfl (lv_at hl 1 rfl) ?_
    refine lv_i2l (v := z1.toInt64) C.1 C.2.1 dX12_sum_74 rfl ?_
    refine lv_lload_n C.1 C.2.1 dX12_sum_75 rfl (lv_at hl 3 rfl) ?_
    refine lv_lsub C.1 C.2.1 dX12_sum_76 ?_
    exact wGX12_sum_0_77 C hK hJ hrc hk5 _ _ _ _ _ h hP hS (lv_sub hl [0] rfl)
  · rw [if_neg c63] at h
    refine lv_iload_n C.1 C.2.1 dX12_sum_66 rfl (lv_at hl 1 rfl) ?_
    refine lv_i2l (v := z1.toInt64) C.1 C.2.1 dX12_sum_67 rfl ?_
    refine lv_lload_n C.1 C.2.1 dX12_sum_68 rfl (lv_at hl 3 rfl) ?_
    refine lv_ladd C.1 C.2.1 dX12_sum_69 ?_
    refine lv_goto (tgt := 77) C.1 C.2.1 dX12_sum_70 (by decide) ?_
    exact wGX12_sum_0_77 C hK hJ hrc hk5 _ _ _ _ _ h hP hS (lv_sub hl [0] rfl)
set_option maxHeartbeats 4000000 in
set_option maxRecDepth 100000 in
theorem wGX12_sum_0_31 {p : Program} {l : Launch} {e : Env} {s : State} {m : MethodId} {args : Array Value} {below : List Frame} {meth : Method} {c : Code} {D : va_G} {cy : Nat → ClassId} {ad st : Nat → Nat} (C : Cx RX12 cX12_sum 5 (some .int) wsX12_sum p s m args meth c) (hK : Ky D [(cy 0, .int), (cy 1, .long), (cy 2, .boolean), (cy 3, .byte), (cy 4, .object "HissHorn$Text")] st s) (hJ : JM ad st) {rc : Nat → Int32 → SX → Option (Int32 × SX)} {dd : Nat} (hrc : hRX12sumg l D cy ad st rc dd) {r : Int32} {u' : SX} {k5 : Int32 → SX → Option (Int32 × SX)} (hk5 : ∀ (z1 : Int32) (u : SX) (H : Heap) (locs : List Loc) (ls : Array Slot), k5 z1 u = some (r, u') → va_P D vwCl (VM cy ad st u) H → va_S (Ax (AM ad) s.heap.size) s.heap H locs → lv_has ls 5 [(0, .ref (ad 0)), (1, .int z1)] → W p l e (rmX12sumg (dd + 1)) s m args below meth c H locs 0 0 (MQ below (Qi D (VM cy ad st) (AM ad) s.heap.size r u') args s 0 0 (Ax (AM ad) s.heap.size)) (F0 m 5 ls [])) (z1 : Int32) (u : SX) (H : Heap) (locs : List Loc) (ls : Array Slot) (h : GX12_sum_0_31 rc k5 z1 u = some (r, u')) (hP : va_P D vwCl (VM cy ad st u) H) (hS : va_S (Ax (AM ad) s.heap.size) s.heap H locs) (hl : lv_has ls 5 [(0, .ref (ad 0)), (1, .int z1)]) : W p l e (rmX12sumg (dd + 1)) s m args below meth c H locs 0 0 (MQ below (Qi D (VM cy ad st) (AM ad) s.heap.size r u') args s 0 0 (Ax (AM ad) s.heap.size)) (F0 m 31 ls []) := by
  unfold GX12_sum_0_31 at h
  refine lv_aload_n C.1 C.2.1 dX12_sum_31 rfl (lv_at hl 0 rfl) ?_
  obtain ⟨⟨r7, u8⟩, hc9, h⟩ := bd_some h
  try dsimp only at h
  refine cg_i (As := []) (rest := []) (AM_ge hJ) C hK hP hS (metX12_look_0 l D cy ad st hJ _  hc9) (cwV 0 C.2.2.2.2.2.1 gX12_sum_X12_look rfl rfl rfl (by decide +kernel) ⟨(Nat.le_trans (m := 4) (Nat.le_of_ble_eq_true rfl) (rmX12sumg_f _)), (Nat.le_trans (m := 91) (Nat.le_of_ble_eq_true rfl) (rmX12sumg_l _))⟩) 0 12 rfl rfl rfl hl.1 rfl (Nat.le_of_ble_eq_true rfl) dX12_sum_32 ⟨Nat.zero_le _, Nat.zero_le _⟩ (fun H locs hP hS => ?_)
  refine lv_bipush (v := 43) C.1 C.2.1 dX12_sum_35 (by decide) ?_
  refine lv_icmp_ne (tgt := 44) C.1 C.2.1 dX12_sum_37 (by decide) (fun c37 => ?_) (fun c37 => ?_)
  · rw [if_neg c37] at h
    refine lv_iconst (v := 0) C.1 C.2.1 dX12_sum_44 (by decide) ?_
    exact wGX12_sum_0_45 C hK hJ hrc hk5 _ _ _ _ _ _ h hP hS hl
  · rw [if_pos c37] at h
    refine lv_iconst (v := 1) C.1 C.2.1 dX12_sum_40 (by decide) ?_
    refine lv_goto (tgt := 45) C.1 C.2.1 dX12_sum_41 (by decide) ?_
    exact wGX12_sum_0_45 C hK hJ hrc hk5 _ _ _ _ _ _ h hP hS hl
set_option maxHeartbeats 4000000 in
set_option maxRecDepth 100000 in
theorem wLX12_sum_0_5 {p : Program} {l : Launch} {e : Env} {s : State} {m : MethodId} {args : Array Value} {below : List Frame} {meth : Method} {c : Code} {D : va_G} {cy : Nat → ClassId} {ad st : Nat → Nat} (C : Cx RX12 cX12_sum 5 (some .int) wsX12_sum p s m args meth c) (hK : Ky D [(cy 0, .int), (cy 1, .long), (cy 2, .boolean), (cy 3, .byte), (cy 4, .object "HissHorn$Text")] st s) (hJ : JM ad st) {rc : Nat → Int32 → SX → Option (Int32 × SX)} {dd : Nat} (hrc : hRX12sumg l D cy ad st rc dd) {r : Int32} {u' : SX}   : ∀ (n : Nat) (z1 : Int32) (u : SX) (H : Heap) (locs : List Loc) (ls : Array Slot), LX12_sum_0_5 rc  n z1 u = some (r, u') → va_P D vwCl (VM cy ad st u) H → va_S (Ax (AM ad) s.heap.size) s.heap H locs → lv_has ls 5 [(0, .ref (ad 0)), (1, .int z1)] → W p l e (rmX12sumg (dd + 1)) s m args below meth c H locs 0 0 (MQ below (Qi D (VM cy ad st) (AM ad) s.heap.size r u') args s 0 0 (Ax (AM ad) s.heap.size)) (F0 m 5 ls []) := by
  intro n
  induction n with
  | zero =>
    intro z1 u H locs ls h
    exact absurd h (by intro q; cases q)
  | succ n ih =>
    intro z1 u H locs ls h hP hS hl
    rw [LX12_sum_0_5] at h
    refine lv_aload_n C.1 C.2.1 dX12_sum_5 rfl (lv_at hl 0 rfl) ?_
    refine gM_0_fault C hX12_sum_0_X12 hK hP mX12_sum_0_1 dX12_sum_6 ?_
    refine lv_iconst (v := (-1)) C.1 C.2.1 dX12_sum_9 (by decide) ?_
    refine lv_icmp_ne (tgt := 84) C.1 C.2.1 dX12_sum_10 (by decide) (fun c10 => ?_) (fun c10 => ?_)
    · rw [if_neg c10] at h
      refine lv_iload_n C.1 C.2.1 dX12_sum_84 rfl (lv_at hl 1 rfl) ?_
      cases h
      exact rt_i C hP hS dX12_sum_85
    · rw [if_pos c10] at h
      refine lv_aload_n C.1 C.2.1 dX12_sum_13 rfl (lv_at hl 0 rfl) ?_
      obtain ⟨⟨r4, u5⟩, hc6, h⟩ := bd_some h
      try dsimp only at h
      refine cg_i (As := []) (rest := []) (AM_ge hJ) C hK hP hS (metX12_look_0 l D cy ad st hJ _  hc6) (cwV 0 C.2.2.2.2.2.1 gX12_sum_X12_look rfl rfl rfl (by decide +kernel) ⟨(Nat.le_trans (m := 4) (Nat.le_of_ble_eq_true rfl) (rmX12sumg_f _)), (Nat.le_trans (m := 91) (Nat.le_of_ble_eq_true rfl) (rmX12sumg_l _))⟩) 0 12 rfl rfl rfl hl.1 rfl (Nat.le_of_ble_eq_true rfl) dX12_sum_14 ⟨Nat.zero_le _, Nat.zero_le _⟩ (fun H locs hP hS => ?_)
      refine lv_bipush (v := 43) C.1 C.2.1 dX12_sum_17 (by decide) ?_
      refine lv_icmp_eq (tgt := 31) C.1 C.2.1 dX12_sum_19 (by decide) (fun c19 => ?_) (fun c19 => ?_)
      · rw [if_pos c19] at h
        exact wGX12_sum_0_31 C hK hJ hrc ih _ _ _ _ _ h hP hS hl
      · rw [if_neg c19] at h
        refine lv_aload_n C.1 C.2.1 dX12_sum_22 rfl (lv_at hl 0 rfl) ?_
        obtain ⟨⟨r20, u21⟩, hc22, h⟩ := bd_some h
        try dsimp only at h
        refine cg_i (As := []) (rest := []) (AM_ge hJ) C hK hP hS (metX12_look_0 l D cy ad st hJ _  hc22) (cwV 0 C.2.2.2.2.2.1 gX12_sum_X12_look rfl rfl rfl (by decide +kernel) ⟨(Nat.le_trans (m := 4) (Nat.le_of_ble_eq_true rfl) (rmX12sumg_f _)), (Nat.le_trans (m := 91) (Nat.le_of_ble_eq_true rfl) (rmX12sumg_l _))⟩) 0 12 rfl rfl rfl hl.1 rfl (Nat.le_of_ble_eq_true rfl) dX12_sum_23 ⟨Nat.zero_le _, Nat.zero_le _⟩ (fun H locs hP hS => ?_)
        refine lv_bipush (v := 45) C.1 C.2.1 dX12_sum_26 (by decide) ?_
        refine lv_icmp_ne (tgt := 84) C.1 C.2.1 dX12_sum_28 (by decide) (fun c28 => ?_) (fun c28 => ?_)
        · rw [if_neg c28] at h
          refine lv_iload_n C.1 C.2.1 dX12_sum_84 rfl (lv_at hl 1 rfl) ?_
          cases h
          exact rt_i C hP hS dX12_sum_85
        · rw [if_pos c28] at h
          exact wGX12_sum_0_31 C hK hJ hrc ih _ _ _ _ _ h hP hS hl
set_option maxHeartbeats 4000000 in
set_option maxRecDepth 100000 in
theorem wX12_sum_0 {p : Program} {l : Launch} {e : Env} {s : State} {m : MethodId} {args : Array Value} {below : List Frame} {meth : Method} {c : Code} {D : va_G} {cy : Nat → ClassId} {ad st : Nat → Nat} (C : Cx RX12 cX12_sum 5 (some .int) wsX12_sum p s m args meth c) (hK : Ky D [(cy 0, .int), (cy 1, .long), (cy 2, .boolean), (cy 3, .byte), (cy 4, .object "HissHorn$Text")] st s) (hJ : JM ad st) {rc : Nat → Int32 → SX → Option (Int32 × SX)} {dd : Nat} (hrc : hRX12sumg l D cy ad st rc dd)  {u : SX} {r : Int32} {u' : SX} {H : Heap} {locs : List Loc} {ls : Array Slot} (h : fX12_sum_0 rc  u = some (r, u')) (hP : va_P D vwCl (VM cy ad st u) H) (hS : va_S (Ax (AM ad) s.heap.size) s.heap H locs) (hl : lv_has ls 5 [(0, .ref (ad 0))]) : W p l e (rmX12sumg (dd + 1)) s m args below meth c H locs 0 0 (MQ below (Qi D (VM cy ad st) (AM ad) s.heap.size r u') args s 0 0 (Ax (AM ad) s.heap.size)) (F0 m 0 ls []) := by
  unfold fX12_sum_0 at h
  refine lv_aload_n C.1 C.2.1 dX12_sum_0 rfl (lv_at hl 0 rfl) ?_
  obtain ⟨⟨r1, u2⟩, hc3, h⟩ := bd_some h
  try dsimp only at h
  refine cg_i (As := []) (rest := []) (AM_ge hJ) C hK hP hS (hrc.2.1 _  _ _ _ hc3) (cwV 0 C.2.2.2.2.2.1 gX12_sum_X12_term rfl rfl rfl (by decide +kernel) ⟨rmX12sumg_sf dd, rmX12sumg_sl dd (k := 8 + (5 + 11)) (Nat.le_of_ble_eq_true rfl)⟩) 0 12 rfl rfl rfl hl.1 rfl (Nat.le_of_ble_eq_true rfl) dX12_sum_1 ⟨Nat.zero_le _, Nat.zero_le _⟩ (fun H locs hP hS => ?_)
  refine lv_istore_n (lv' := [(1, .int r1), (0, .ref (ad 0))]) C.1 C.2.1 dX12_sum_4 rfl hl (by decide) rfl (fun ls hl => ?_)
  replace hl := lv_sub (l' := [(0, .ref (ad 0)), (1, .int r1)]) hl [1, 0] rfl
  exact wLX12_sum_0_5 C hK hJ hrc  5000 _ _ _ _ _ h hP hS hl
theorem metX12_sum_0 (l : Launch) (D : va_G) (cy : Nat → ClassId) (ad st : Nat → Nat) (hJ : JM ad st) {rc : Nat → Int32 → SX → Option (Int32 × SX)} {dd : Nat} (hrc : hRX12sumg l D cy ad st rc dd) (sz : Nat)  {u : SX} {r : Int32} {u' : SX} (h : fX12_sum_0 rc  u = some (r, u')) : Met l yX12_sum wsX12_sum (rmX12sumg (dd + 1)) (va_Pc [.ref (ad 0)] (Px D [(cy 0, .int), (cy 1, .long), (cy 2, .boolean), (cy 3, .byte), (cy 4, .object "HissHorn$Text")] st (VM cy ad st) sz u)) (Qi D (VM cy ad st) (AM ad) sz r u') 0 0 (Ax (AM ad) sz) := by
  refine Met.ofW (cc := cX12_sum) (maxL := 5) (ret := (some .int)) (by decide) rfl ?_
  intro p e s m args below meth c s₁ B hml hv
  obtain ⟨rfl, hsz, hP, hK⟩ := hv
  subst hsz
  have C : Cx RX12 cX12_sum 5 (some .int) wsX12_sum p s m _ meth c := ⟨B.exec, B.bytes, hml, B.returns, findClass_of_methodNamed B.named, atoms_spec (ws := wsX12_sum) B.pre, B.notSynchronized⟩
  have hl := lv_entry ([.ref (ad 0)]) (n := 5) (Nat.le_of_ble_eq_true rfl)
  rw [lg_entry_eq]
  exact wX12_sum_0 C hK hJ hrc h hP va_S.rf hl

set_option maxRecDepth 20000 in
theorem ggX12_term_X12_within : GoodIn wsX12_term wsX12_within := goodIn_r _ [16, 17, 18, 19, 20, 21, 22, 23, 24, 25] rfl (by decide +kernel)
set_option maxRecDepth 20000 in
theorem gX12_term_X12_within : GoodIn wsX12_term (va_wsS RX12 230 yX12_within wsX12_within) := goodIn_app (goodIn_of _ (by decide +kernel)) ggX12_term_X12_within
theorem dX12_term_87 : decode cX12_term 87 = .ok (.invokestatic 230, 3) := by decide +kernel
theorem dX12_term_90 : decode cX12_term 90 = .ok (.istore_n 1, 1) := by decide +kernel
theorem dX12_term_91 : decode cX12_term 91 = .ok (.goto (-86), 3) := by decide +kernel
theorem dX12_term_45 : decode cX12_term 45 = .ok (.istore_n 2, 1) := by decide +kernel
theorem dX12_term_46 : decode cX12_term 46 = .ok (.aload_n 0, 1) := by decide +kernel
theorem dX12_term_47 : decode cX12_term 47 = .ok (.dup, 1) := by decide +kernel
theorem dX12_term_48 : decode cX12_term 48 = .ok (.getfield 173, 3) := by decide +kernel
theorem dX12_term_51 : decode cX12_term 51 = .ok (.iconst 1, 1) := by decide +kernel
theorem dX12_term_52 : decode cX12_term 52 = .ok (.iadd, 1) := by decide +kernel
theorem dX12_term_53 : decode cX12_term 53 = .ok (.putfield 173, 3) := by decide +kernel
theorem dX12_term_56 : decode cX12_term 56 = .ok (.aload_n 0, 1) := by decide +kernel
set_option maxRecDepth 20000 in
theorem ggX12_term_X12_atom : GoodIn wsX12_term wsX12_atom := goodIn_r _ [26, 27, 2, 28, 29, 1, 12, 13, 7, 8, 9, 6, 10, 11, 30, 31, 32, 33, 34, 35, 36, 37, 38, 39, 40, 41, 42, 43, 44, 45, 46, 47, 48, 49, 50, 51, 52, 53, 54, 55, 56, 57, 58, 59, 21, 60, 61, 62, 63, 64, 65, 66, 67, 68, 69, 70, 71, 72, 73, 74, 75, 76, 77, 78, 79, 80, 81, 82, 83, 84, 85, 86, 87, 88, 89, 90, 91, 92, 93, 94, 95, 96, 97, 98, 99, 100, 101, 102, 103, 104, 105, 106, 107, 108, 109, 110, 111, 112, 113, 114, 115, 116, 117, 118, 119, 120, 121, 122, 123, 124, 125, 126, 127, 128, 129, 130, 131, 132, 133, 134, 135, 136, 137, 138, 139, 140, 14, 15, 16, 17, 18, 19, 20, 22, 23, 24, 25, 0, 3, 4, 5, 141, 142, 143, 144, 145, 146, 147, 148, 149, 150, 151, 152, 153, 154, 155, 156, 157, 158, 159, 160, 161, 162, 163, 164, 165, 166, 167, 168, 169, 170, 171, 172, 173, 174, 175, 176, 177, 178, 179, 180, 181, 182, 183, 184, 185, 186, 187, 188, 189, 190, 191, 192, 193, 194, 195, 196, 197, 198, 199, 200, 201, 202, 203, 204, 205, 206, 207, 208, 209] rfl (by decide +kernel)
set_option maxRecDepth 20000 in
theorem gX12_term_X12_atom : GoodIn wsX12_term (wsV RX12 227 RX12 yX12_atom wsX12_atom) := goodIn_app (goodIn_of _ (by decide +kernel)) ggX12_term_X12_atom
theorem dX12_term_57 : decode cX12_term 57 = .ok (.invokevirtual 227, 3) := by decide +kernel
theorem dX12_term_60 : decode cX12_term 60 = .ok (.i2l, 1) := by decide +kernel
theorem dX12_term_61 : decode cX12_term 61 = .ok (.lstore_n 3, 1) := by decide +kernel
theorem dX12_term_62 : decode cX12_term 62 = .ok (.iload_n 2, 1) := by decide +kernel
theorem dX12_term_63 : decode cX12_term 63 = .ok (.ifCond .eq 10, 3) := by decide +kernel
theorem dX12_term_73 : decode cX12_term 73 = .ok (.lload_n 3, 1) := by decide +kernel
theorem dX12_term_74 : decode cX12_term 74 = .ok (.lconst 0, 1) := by decide +kernel
theorem dX12_term_75 : decode cX12_term 75 = .ok (.lcmp, 1) := by decide +kernel
theorem dX12_term_76 : decode cX12_term 76 = .ok (.ifCond .ne 7, 3) := by decide +kernel
theorem dX12_term_83 : decode cX12_term 83 = .ok (.iload_n 1, 1) := by decide +kernel
theorem dX12_term_84 : decode cX12_term 84 = .ok (.i2l, 1) := by decide +kernel
theorem dX12_term_85 : decode cX12_term 85 = .ok (.lload_n 3, 1) := by decide +kernel
theorem dX12_term_86 : decode cX12_term 86 = .ok (.ldiv, 1) := by decide +kernel
theorem dX12_term_79 : decode cX12_term 79 = .ok (.lconst 0, 1) := by decide +kernel
theorem dX12_term_80 : decode cX12_term 80 = .ok (.goto 7, 3) := by decide +kernel
theorem dX12_term_66 : decode cX12_term 66 = .ok (.iload_n 1, 1) := by decide +kernel
theorem dX12_term_67 : decode cX12_term 67 = .ok (.i2l, 1) := by decide +kernel
theorem dX12_term_68 : decode cX12_term 68 = .ok (.lload_n 3, 1) := by decide +kernel
theorem dX12_term_69 : decode cX12_term 69 = .ok (.lmul, 1) := by decide +kernel
theorem dX12_term_70 : decode cX12_term 70 = .ok (.goto 17, 3) := by decide +kernel
theorem dX12_term_31 : decode cX12_term 31 = .ok (.aload_n 0, 1) := by decide +kernel
set_option maxRecDepth 20000 in
theorem ggX12_term_X12_look : GoodIn wsX12_term wsX12_look := goodIn_r _ [10, 2, 11, 12, 13, 141, 142, 143, 144, 145, 146, 147, 148, 149, 150, 151, 152, 153, 154, 155, 156, 157, 158, 159, 160, 161, 162, 163, 164, 165, 166, 167, 168, 169, 170, 171, 172, 173, 174, 175, 176, 177, 178, 179, 180, 181, 182, 183, 184, 185, 186, 187, 188, 189, 190, 191, 192, 193, 194, 195, 196, 197, 198, 199, 200, 201, 202, 203, 204, 205, 206, 207, 208, 209] rfl (by decide +kernel)
set_option maxRecDepth 20000 in
theorem gX12_term_X12_look : GoodIn wsX12_term (wsV RX12 192 RX12 yX12_look wsX12_look) := goodIn_app (goodIn_of _ (by decide +kernel)) ggX12_term_X12_look
theorem dX12_term_32 : decode cX12_term 32 = .ok (.invokevirtual 192, 3) := by decide +kernel
theorem dX12_term_35 : decode cX12_term 35 = .ok (.bipush 42, 2) := by decide +kernel
theorem dX12_term_37 : decode cX12_term 37 = .ok (.if_icmp .ne 7, 3) := by decide +kernel
theorem dX12_term_44 : decode cX12_term 44 = .ok (.iconst 0, 1) := by decide +kernel
theorem dX12_term_40 : decode cX12_term 40 = .ok (.iconst 1, 1) := by decide +kernel
theorem dX12_term_41 : decode cX12_term 41 = .ok (.goto 4, 3) := by decide +kernel
theorem dX12_term_5 : decode cX12_term 5 = .ok (.aload_n 0, 1) := by decide +kernel
theorem dX12_term_6 : decode cX12_term 6 = .ok (.getfield 182, 3) := by decide +kernel
theorem dX12_term_9 : decode cX12_term 9 = .ok (.iconst (-1), 1) := by decide +kernel
theorem dX12_term_10 : decode cX12_term 10 = .ok (.if_icmp .ne 84, 3) := by decide +kernel
theorem dX12_term_94 : decode cX12_term 94 = .ok (.iload_n 1, 1) := by decide +kernel
theorem dX12_term_95 : decode cX12_term 95 = .ok (.ireturn, 1) := by decide +kernel
theorem dX12_term_13 : decode cX12_term 13 = .ok (.aload_n 0, 1) := by decide +kernel
theorem dX12_term_14 : decode cX12_term 14 = .ok (.invokevirtual 192, 3) := by decide +kernel
theorem dX12_term_17 : decode cX12_term 17 = .ok (.bipush 42, 2) := by decide +kernel
theorem dX12_term_19 : decode cX12_term 19 = .ok (.if_icmp .eq 12, 3) := by decide +kernel
theorem dX12_term_22 : decode cX12_term 22 = .ok (.aload_n 0, 1) := by decide +kernel
theorem dX12_term_23 : decode cX12_term 23 = .ok (.invokevirtual 192, 3) := by decide +kernel
theorem dX12_term_26 : decode cX12_term 26 = .ok (.bipush 47, 2) := by decide +kernel
theorem dX12_term_28 : decode cX12_term 28 = .ok (.if_icmp .ne 66, 3) := by decide +kernel
theorem dX12_term_0 : decode cX12_term 0 = .ok (.aload_n 0, 1) := by decide +kernel
theorem dX12_term_1 : decode cX12_term 1 = .ok (.invokevirtual 227, 3) := by decide +kernel
theorem dX12_term_4 : decode cX12_term 4 = .ok (.istore_n 1, 1) := by decide +kernel
/-- HissHornModel.term()I of cell 0 -/
theorem hX12_term_0_X12 : ∀ w ∈ u_ws RX12 TX12 69, w ∈ wsX12_term := fun w h => (List.mem_cons_of_mem _ (List.mem_append_right _ h))
theorem mX12_term_0_1 : Cond.fieldLink RX12 182 "HissHornModel" "fault" "I" ∈ wsX12_term := (List.mem_cons_of_mem _ (List.mem_append_left _ (List.mem_append_left _ (List.mem_of_getElem? (i := 0) rfl))))
theorem mX12_term_0_2 : Cond.fieldLink RX12 173 "HissHornModel" "at" "I" ∈ wsX12_term := (List.mem_cons_of_mem _ (List.mem_append_left _ (List.mem_append_left _ (List.mem_of_getElem? (i := 1) rfl))))
def GX12_term_0_87 (rc : Nat → Int32 → SX → Option (Int32 × SX)) (k5 : Int32 → SX → Option (Int32 × SX)) (y0 : Int64) (u : SX) : Option (Int32 × SX) := ((fX12_within y0).bind fun r18 => (k5 r18 u))
