theorem zdX11_text_0 : (and (and (and (and (and (zk cX11_text 0 (.aload_n 0) 1) (zk cX11_text 1 (.iload_n 1) 1)) (and (zk cX11_text 2 (.invokevirtual 122) 3) (zk cX11_text 5 (.astore_n 2) 1))) (and (and (zk cX11_text 6 (.aload_n 2) 1) (zk cX11_text 7 (.ifnull 25) 3)) (zk cX11_text 32 (.iconst (-1)) 1))) (and (and (and (zk cX11_text 33 (.ireturn) 1) (zk cX11_text 10 (.aload_n 2) 1)) (zk cX11_text 11 (.invokevirtual 134) 3)) (and (and (zk cX11_text 14 (.ifCond .ne 18) 3) (zk cX11_text 17 (.aload_n 0) 1)) (zk cX11_text 18 (.getfield 21) 3)))) (and (and (and (and (zk cX11_text 21 (.aload_n 2) 1) (zk cX11_text 22 (.getfield 126) 3)) (and (zk cX11_text 25 (.invokevirtual 130) 3) (zk cX11_text 28 (.iconst (-1)) 1))) (and (and (zk cX11_text 29 (.if_icmp .eq 5) 3) (zk cX11_text 34 (.aload_n 0) 1)) (zk cX11_text 35 (.getfield 10) 3))) (and (and (and (zk cX11_text 38 (.iconst 0) 1) (zk cX11_text 39 (.putfield 115) 3)) (zk cX11_text 42 (.aload_n 2) 1)) (and (and (zk cX11_text 43 (.aload_n 0) 1) (zk cX11_text 44 (.getfield 21) 3)) (zk cX11_text 47 (.invokevirtual 138) 3))))) = true := by decide +kernel
theorem dX11_text_0 : decode cX11_text 0 = .ok (.aload_n 0, 1) := zk_of (zk_l (zk_l (zk_l (zk_l (zk_l zdX11_text_0)))))
theorem dX11_text_1 : decode cX11_text 1 = .ok (.iload_n 1, 1) := zk_of (zk_r (zk_l (zk_l (zk_l (zk_l zdX11_text_0)))))
theorem dX11_text_2 : decode cX11_text 2 = .ok (.invokevirtual 122, 3) := zk_of (zk_l (zk_r (zk_l (zk_l (zk_l zdX11_text_0)))))
theorem dX11_text_5 : decode cX11_text 5 = .ok (.astore_n 2, 1) := zk_of (zk_r (zk_r (zk_l (zk_l (zk_l zdX11_text_0)))))
theorem dX11_text_6 : decode cX11_text 6 = .ok (.aload_n 2, 1) := zk_of (zk_l (zk_l (zk_r (zk_l (zk_l zdX11_text_0)))))
theorem dX11_text_7 : decode cX11_text 7 = .ok (.ifnull 25, 3) := zk_of (zk_r (zk_l (zk_r (zk_l (zk_l zdX11_text_0)))))
theorem dX11_text_32 : decode cX11_text 32 = .ok (.iconst (-1), 1) := zk_of (zk_r (zk_r (zk_l (zk_l zdX11_text_0))))
theorem dX11_text_33 : decode cX11_text 33 = .ok (.ireturn, 1) := zk_of (zk_l (zk_l (zk_l (zk_r (zk_l zdX11_text_0)))))
theorem dX11_text_10 : decode cX11_text 10 = .ok (.aload_n 2, 1) := zk_of (zk_r (zk_l (zk_l (zk_r (zk_l zdX11_text_0)))))
theorem dX11_text_11 : decode cX11_text 11 = .ok (.invokevirtual 134, 3) := zk_of (zk_r (zk_l (zk_r (zk_l zdX11_text_0))))
theorem dX11_text_14 : decode cX11_text 14 = .ok (.ifCond .ne 18, 3) := zk_of (zk_l (zk_l (zk_r (zk_r (zk_l zdX11_text_0)))))
theorem dX11_text_17 : decode cX11_text 17 = .ok (.aload_n 0, 1) := zk_of (zk_r (zk_l (zk_r (zk_r (zk_l zdX11_text_0)))))
theorem dX11_text_18 : decode cX11_text 18 = .ok (.getfield 21, 3) := zk_of (zk_r (zk_r (zk_r (zk_l zdX11_text_0))))
theorem dX11_text_21 : decode cX11_text 21 = .ok (.aload_n 2, 1) := zk_of (zk_l (zk_l (zk_l (zk_l (zk_r zdX11_text_0)))))
theorem dX11_text_22 : decode cX11_text 22 = .ok (.getfield 126, 3) := zk_of (zk_r (zk_l (zk_l (zk_l (zk_r zdX11_text_0)))))
theorem dX11_text_25 : decode cX11_text 25 = .ok (.invokevirtual 130, 3) := zk_of (zk_l (zk_r (zk_l (zk_l (zk_r zdX11_text_0)))))
theorem dX11_text_28 : decode cX11_text 28 = .ok (.iconst (-1), 1) := zk_of (zk_r (zk_r (zk_l (zk_l (zk_r zdX11_text_0)))))
theorem dX11_text_29 : decode cX11_text 29 = .ok (.if_icmp .eq 5, 3) := zk_of (zk_l (zk_l (zk_r (zk_l (zk_r zdX11_text_0)))))
theorem dX11_text_34 : decode cX11_text 34 = .ok (.aload_n 0, 1) := zk_of (zk_r (zk_l (zk_r (zk_l (zk_r zdX11_text_0)))))
theorem dX11_text_35 : decode cX11_text 35 = .ok (.getfield 10, 3) := zk_of (zk_r (zk_r (zk_l (zk_r zdX11_text_0))))
theorem dX11_text_38 : decode cX11_text 38 = .ok (.iconst 0, 1) := zk_of (zk_l (zk_l (zk_l (zk_r (zk_r zdX11_text_0)))))
theorem dX11_text_39 : decode cX11_text 39 = .ok (.putfield 115, 3) := zk_of (zk_r (zk_l (zk_l (zk_r (zk_r zdX11_text_0)))))
theorem dX11_text_42 : decode cX11_text 42 = .ok (.aload_n 2, 1) := zk_of (zk_r (zk_l (zk_r (zk_r zdX11_text_0))))
theorem dX11_text_43 : decode cX11_text 43 = .ok (.aload_n 0, 1) := zk_of (zk_l (zk_l (zk_r (zk_r (zk_r zdX11_text_0)))))
theorem dX11_text_44 : decode cX11_text 44 = .ok (.getfield 21, 3) := zk_of (zk_r (zk_l (zk_r (zk_r (zk_r zdX11_text_0)))))
theorem dX11_text_47 : decode cX11_text 47 = .ok (.invokevirtual 138, 3) := zk_of (zk_r (zk_r (zk_r (zk_r zdX11_text_0))))
set_option maxRecDepth 20000 in
theorem ggX11_text_X11_shelfOf : GoodIn wsX11_text wsX11_shelfOf := goodIn_r _ [9, 10, 11, 12, 195, 196, 197, 198, 199, 200, 201, 202, 203, 204, 205, 206, 207] rfl (by decide +kernel)
set_option maxRecDepth 20000 in
theorem gX11_text_X11_shelfOf : GoodIn wsX11_text (wsV RX11 122 RX11 yX11_shelfOf wsX11_shelfOf) := goodIn_app (goodIn_of _ (by decide +kernel)) ggX11_text_X11_shelfOf
set_option maxRecDepth 20000 in
theorem ggX11_text_X8_isFull : GoodIn wsX11_text wsX8_isFull := goodIn_r _ [17, 18, 19, 208, 209, 210, 211, 212] rfl (by decide +kernel)
set_option maxRecDepth 20000 in
theorem gX11_text_X8_isFull : GoodIn wsX11_text (wsV RX11 134 RX8 yX8_isFull wsX8_isFull) := goodIn_app (goodIn_of _ (by decide +kernel)) ggX11_text_X8_isFull
set_option maxRecDepth 20000 in
theorem ggX11_text_X5_faultBy : GoodIn wsX11_text wsX5_faultBy := goodIn_r _ [24, 25, 26, 27, 28, 29, 30, 31, 32, 23, 33, 34, 35, 36, 37, 38, 39, 40, 41, 42, 43, 44, 45, 46, 47, 48, 49, 50, 51, 52, 53, 54, 55, 56, 57, 58, 59, 60, 61, 62, 63, 64, 65, 66, 67, 68, 69, 70, 71, 72, 73, 74, 75, 76, 77, 78, 79, 80, 81, 82, 83, 84, 85, 86, 87, 88, 89, 90, 91, 92, 93, 94, 95, 96, 97, 98, 99, 100, 101, 102, 103, 104, 105, 106, 107, 108, 109, 110, 111, 112, 113, 114, 115, 116, 117, 118, 119, 120, 121, 122, 123, 124, 125, 126, 127, 128, 129, 130, 131, 132, 133, 134, 135, 136, 137, 138, 139, 140, 141, 142, 143, 144, 145, 146, 147, 148, 149, 150, 151, 152, 153, 154, 155, 156, 157, 158, 159, 215, 216, 217, 218, 219, 213, 214] rfl (by decide +kernel)
set_option maxRecDepth 20000 in
theorem gX11_text_X5_faultBy : GoodIn wsX11_text (wsV RX11 130 RX5 yX5_faultBy wsX5_faultBy) := goodIn_app (goodIn_of _ (by decide +kernel)) ggX11_text_X5_faultBy
set_option maxRecDepth 20000 in
theorem ggX11_text_X5_compiled : GoodIn wsX11_text wsX5_compiled := goodIn_r _ [163, 164, 165, 166, 54, 27, 167, 168, 169, 170, 171, 172, 173, 174, 175, 176, 177, 178, 93, 90, 94, 179, 180, 181, 182, 183, 184, 185, 186, 187, 188, 189, 220, 215, 216, 217, 218, 219] rfl (by decide +kernel)
set_option maxRecDepth 20000 in
theorem gX11_text_X5_compiled : GoodIn wsX11_text (wsV RX11 138 RX5 yX5_compiled wsX5_compiled) := goodIn_app (goodIn_of _ (by decide +kernel)) ggX11_text_X5_compiled
/-- HissHorn.text(I)I of cell 0 -/
def rmX11_text_0 : Room := { frames := 71, cells := 0, slots := 0, locals := 4257 }
theorem hX11_text_0_X11 : ∀ w ∈ u_ws RX11 TX11 13, w ∈ wsX11_text := fun w h => (List.mem_cons_of_mem _ (List.mem_append_left _ (List.mem_append_left _ (List.mem_append_left _ (List.mem_append_left _ (List.mem_append_right _ h))))))
theorem mX11_text_0_1 : Cond.fieldLink RX11 21 "HissHorn" "parser" "LHissHorn$Parser;" ∈ wsX11_text := (List.mem_cons_of_mem _ (List.mem_append_left _ (List.mem_append_left _ (List.mem_append_left _ (List.mem_append_left _ (List.mem_append_left _ (List.mem_append_left _ (List.mem_of_getElem? (i := 0) rfl))))))))
theorem hX11_text_0_X8 : ∀ w ∈ u_ws RX8 TX8 5, w ∈ wsX11_text := fun w h => (List.mem_cons_of_mem _ (List.mem_append_left _ (List.mem_append_left _ (List.mem_append_left _ (List.mem_append_right _ h)))))
theorem mX11_text_0_3 : Cond.fieldLink RX11 126 "HissHorn$Shelf" "letters" "Ljava/lang/String;" ∈ wsX11_text := (List.mem_cons_of_mem _ (List.mem_append_left _ (List.mem_append_left _ (List.mem_append_left _ (List.mem_append_left _ (List.mem_append_left _ (List.mem_append_left _ (List.mem_of_getElem? (i := 1) rfl))))))))
theorem mX11_text_0_4 : Cond.fieldLink RX11 10 "HissHorn" "tape" "LHissHorn$Tape;" ∈ wsX11_text := (List.mem_cons_of_mem _ (List.mem_append_left _ (List.mem_append_left _ (List.mem_append_left _ (List.mem_append_left _ (List.mem_append_left _ (List.mem_append_left _ (List.mem_of_getElem? (i := 2) rfl))))))))
theorem hX11_text_0_X9 : ∀ w ∈ u_ws RX9 TX9 2, w ∈ wsX11_text := fun w h => (List.mem_cons_of_mem _ (List.mem_append_left _ (List.mem_append_left _ (List.mem_append_right _ h))))
theorem mX11_text_0_6 : Cond.fieldLink RX11 115 "HissHorn$Tape" "length" "I" ∈ wsX11_text := (List.mem_cons_of_mem _ (List.mem_append_left _ (List.mem_append_left _ (List.mem_append_left _ (List.mem_append_left _ (List.mem_append_left _ (List.mem_append_left _ (List.mem_of_getElem? (i := 3) rfl))))))))
def fX11_text_0 (x1 : Int32) (u : SX) : Option (Int32 × SX) := ((fX11_shelfOf_0 x1 u).bind fun q => match q with | (r1, u2) => (if r1 = 0 then (some ((-1), u2)) else (if r1 = 4 then ((fX8_isFull_3  u2).bind fun q => match q with | (r4, u5) => (if r4 = 0 then ((fX5_faultBy_2_as0  u5).bind fun q => match q with | (r7, u8) => (if r7 = (-1) then (lt (sI u8 1 0) fun u10 => ((fX5_compiled_2  u10).bind fun q => match q with | (r12, u13) => none)) else (some ((-1), u8)))) else (some ((-1), u5)))) else (if r1 = 5 then ((fX8_isFull_4  u2).bind fun q => match q with | (r15, u16) => (if r15 = 0 then ((fX5_faultBy_2_as1  u16).bind fun q => match q with | (r18, u19) => (if r18 = (-1) then (lt (sI u19 1 0) fun u21 => ((fX5_compiled_2  u21).bind fun q => match q with | (r23, u24) => none)) else (some ((-1), u19)))) else (some ((-1), u16)))) else (if r1 = 6 then ((fX8_isFull_5  u2).bind fun q => match q with | (r26, u27) => (if r26 = 0 then ((fX5_faultBy_2_as2  u27).bind fun q => match q with | (r29, u30) => (if r29 = (-1) then (lt (sI u30 1 0) fun u32 => ((fX5_compiled_2  u32).bind fun q => match q with | (r34, u35) => none)) else (some ((-1), u30)))) else (some ((-1), u27)))) else none)))))
set_option maxHeartbeats 4000000 in
set_option maxRecDepth 100000 in
theorem wX11_text_0 {p : Program} {l : Launch} {e : Env} {s : State} {m : MethodId} {args : Array Value} {below : List Frame} {meth : Method} {c : Code} {D : va_G} {cy : Nat → ClassId} {ad st : Nat → Nat} (C : Cx RX11 cX11_text 3 (some .int) wsX11_text p s m args meth c) (hK : Ky D [(cy 0, .int), (cy 1, .long), (cy 2, .boolean), (cy 3, .byte), (cy 4, .object "HissHorn$Text")] st s) (hJ : JX ad st) (x1 : Int32) {u : SX} {r : Int32} {u' : SX} {H : Heap} {locs : List Loc} {ls : Array Slot} (h : fX11_text_0 x1 u = some (r, u')) (hP : va_P D vwCl (VX cy ad st u) H) (hS : va_S (Ax (AX ad) s.heap.size) s.heap H locs) (hl : lv_has ls 3 [(0, .ref (ad 0)), (1, .int x1)]) : W p l e rmX11_text_0 s m args below meth c H locs 0 0 (MQ below (Qi D (VX cy ad st) (AX ad) s.heap.size r u') args s 0 0 (Ax (AX ad) s.heap.size)) (F0 m 0 ls []) := by
  unfold fX11_text_0 at h
  refine lv_aload_n C.1 C.2.1 dX11_text_0 rfl (lv_at hl 0 rfl) ?_
  refine lv_iload_n C.1 C.2.1 dX11_text_1 rfl (lv_at hl 1 rfl) ?_
  obtain ⟨⟨r1, u2⟩, hc3, h⟩ := bd_some h
  try dsimp only at h
  refine cg_q (As := [.int x1]) (rest := []) (AX_ge hJ) C hK hP hS (metX11_shelfOf_0 l D cy ad st hJ _ x1 hc3) (cwV 1 C.2.2.2.2.2.1 gX11_text_X11_shelfOf rfl rfl rfl (by decide +kernel) ⟨(Nat.le_of_ble_eq_true rfl), (Nat.le_of_ble_eq_true rfl)⟩) 0 11 rfl rfl rfl hl.1 rfl (Nat.le_of_ble_eq_true rfl) dX11_text_2 ⟨Nat.zero_le _, Nat.zero_le _⟩ (fun H locs hP hS => ?_)
  by_cases c2_0 : r1 = 0
  · rw [if_pos c2_0] at h
    subst c2_0
    refine W.eq (g2 := F0 m 5 ls [.null]) rfl ?_
    refine lv_astore_nN (lv' := [(2, .null), (0, .ref (ad 0)), (1, .int x1)]) C.1 C.2.1 dX11_text_5 rfl hl (by decide) rfl (fun ls hl => ?_)
    replace hl := lv_sub (l' := [(0, .ref (ad 0)), (1, .int x1), (2, .null)]) hl [1, 2, 0] rfl
    refine lv_aload_nN C.1 C.2.1 dX11_text_6 rfl (lv_at hl 2 rfl) ?_
    refine lv_ifnullN (tgt := 32) C.1 C.2.1 dX11_text_7 (by decide) ?_
    refine lv_iconst (v := (-1)) C.1 C.2.1 dX11_text_32 (by decide) ?_
    cases h
    exact rt_i C hP hS dX11_text_33
  · rw [if_neg c2_0] at h
    by_cases c2_4 : r1 = 4
    · rw [if_pos c2_4] at h
      subst c2_4
      refine W.eq (g2 := F0 m 5 ls [.ref (ad 3)]) rfl ?_
      refine lv_astore_n (lv' := [(2, .ref (ad 3)), (0, .ref (ad 0)), (1, .int x1)]) C.1 C.2.1 dX11_text_5 rfl hl (by decide) rfl (fun ls hl => ?_)
      replace hl := lv_sub (l' := [(0, .ref (ad 0)), (1, .int x1), (2, .ref (ad 3))]) hl [1, 2, 0] rfl
      refine lv_aload_n C.1 C.2.1 dX11_text_6 rfl (lv_at hl 2 rfl) ?_
      refine lv_ifnull C.1 C.2.1 dX11_text_7 ?_
      refine lv_aload_n C.1 C.2.1 dX11_text_10 rfl (lv_at hl 2 rfl) ?_
      obtain ⟨⟨r4, u5⟩, hc6, h⟩ := bd_some h
      try dsimp only at h
      refine cg_i (As := []) (rest := []) (AX_ge hJ) C hK hP hS (metX8_isFull_3 l D cy ad st hJ _  hc6) (cwV 0 C.2.2.2.2.2.1 gX11_text_X8_isFull rfl rfl rfl (by decide +kernel) ⟨(Nat.le_of_ble_eq_true rfl), (Nat.le_of_ble_eq_true rfl)⟩) 3 8 rfl rfl rfl hl.1 rfl (Nat.le_of_ble_eq_true rfl) dX11_text_11 ⟨Nat.zero_le _, Nat.zero_le _⟩ (fun H locs hP hS => ?_)
      refine lv_if_ne (tgt := 32) C.1 C.2.1 dX11_text_14 (by decide) (fun c14 => ?_) (fun c14 => ?_)
      · rw [if_neg c14] at h
        refine lv_iconst (v := (-1)) C.1 C.2.1 dX11_text_32 (by decide) ?_
        cases h
        exact rt_i C hP hS dX11_text_33
      · rw [if_pos c14] at h
        refine lv_aload_n C.1 C.2.1 dX11_text_17 rfl (lv_at hl 0 rfl) ?_
        refine gX_0_parser C hX11_text_0_X11 hK hP mX11_text_0_1 dX11_text_18 ?_
        refine lv_aload_n C.1 C.2.1 dX11_text_21 rfl (lv_at hl 2 rfl) ?_
        refine gX_3_letters C hX11_text_0_X8 hK hP mX11_text_0_3 dX11_text_22 ?_
        obtain ⟨⟨r7, u8⟩, hc9, h⟩ := bd_some h
        try dsimp only at h
        refine cg_i (As := [.ref (st 0)]) (rest := []) (AX_ge hJ) C hK hP hS (metX5_faultBy_2_as0 l D cy ad st hJ _  hc9) (cwV 1 C.2.2.2.2.2.1 gX11_text_X5_faultBy rfl rfl rfl (by decide +kernel) ⟨(Nat.le_of_ble_eq_true rfl), (Nat.le_of_ble_eq_true rfl)⟩) 2 5 rfl rfl rfl hl.1 rfl (Nat.le_of_ble_eq_true rfl) dX11_text_25 ⟨Nat.zero_le _, Nat.zero_le _⟩ (fun H locs hP hS => ?_)
        refine lv_iconst (v := (-1)) C.1 C.2.1 dX11_text_28 (by decide) ?_
        refine lv_icmp_eq (tgt := 34) C.1 C.2.1 dX11_text_29 (by decide) (fun c29 => ?_) (fun c29 => ?_)
        · rw [if_pos c29] at h
          refine lv_aload_n C.1 C.2.1 dX11_text_34 rfl (lv_at hl 0 rfl) ?_
          refine gX_0_tape C hX11_text_0_X11 hK hP mX11_text_0_4 dX11_text_35 ?_
          refine lv_iconst (v := 0) C.1 C.2.1 dX11_text_38 (by decide) ?_
          refine pX_1_length C hX11_text_0_X9 hK hP hJ hS mX11_text_0_6 dX11_text_39 (fun H locs hP hS => ?_)
          obtain ⟨u10, hu11, h⟩ := lt_some h
          rw [← hu11] at hP
          refine lv_aload_n C.1 C.2.1 dX11_text_42 rfl (lv_at hl 2 rfl) ?_
          refine lv_aload_n C.1 C.2.1 dX11_text_43 rfl (lv_at hl 0 rfl) ?_
          refine gX_0_parser C hX11_text_0_X11 hK hP mX11_text_0_1 dX11_text_44 ?_
          obtain ⟨⟨r12, u13⟩, hc14, h⟩ := bd_some h
          try dsimp only at h
          refine cg_q (As := []) (rest := [.ref (ad 3)]) (AX_ge hJ) C hK hP hS (metX5_compiled_2 l D cy ad st hJ _  hc14) (cwV 0 C.2.2.2.2.2.1 gX11_text_X5_compiled rfl rfl rfl (by decide +kernel) ⟨(Nat.le_of_ble_eq_true rfl), (Nat.le_of_ble_eq_true rfl)⟩) 2 5 rfl rfl rfl hl.1 rfl (Nat.le_of_ble_eq_true rfl) dX11_text_47 ⟨Nat.zero_le _, Nat.zero_le _⟩ (fun H locs hP hS => ?_)
          exact absurd h (by intro q; cases q)
        · rw [if_neg c29] at h
          refine lv_iconst (v := (-1)) C.1 C.2.1 dX11_text_32 (by decide) ?_
          cases h
          exact rt_i C hP hS dX11_text_33
    · rw [if_neg c2_4] at h
      by_cases c2_5 : r1 = 5
      · rw [if_pos c2_5] at h
        subst c2_5
        refine W.eq (g2 := F0 m 5 ls [.ref (ad 4)]) rfl ?_
        refine lv_astore_n (lv' := [(2, .ref (ad 4)), (0, .ref (ad 0)), (1, .int x1)]) C.1 C.2.1 dX11_text_5 rfl hl (by decide) rfl (fun ls hl => ?_)
        replace hl := lv_sub (l' := [(0, .ref (ad 0)), (1, .int x1), (2, .ref (ad 4))]) hl [1, 2, 0] rfl
        refine lv_aload_n C.1 C.2.1 dX11_text_6 rfl (lv_at hl 2 rfl) ?_
        refine lv_ifnull C.1 C.2.1 dX11_text_7 ?_
        refine lv_aload_n C.1 C.2.1 dX11_text_10 rfl (lv_at hl 2 rfl) ?_
        obtain ⟨⟨r15, u16⟩, hc17, h⟩ := bd_some h
        try dsimp only at h
        refine cg_i (As := []) (rest := []) (AX_ge hJ) C hK hP hS (metX8_isFull_4 l D cy ad st hJ _  hc17) (cwV 0 C.2.2.2.2.2.1 gX11_text_X8_isFull rfl rfl rfl (by decide +kernel) ⟨(Nat.le_of_ble_eq_true rfl), (Nat.le_of_ble_eq_true rfl)⟩) 4 8 rfl rfl rfl hl.1 rfl (Nat.le_of_ble_eq_true rfl) dX11_text_11 ⟨Nat.zero_le _, Nat.zero_le _⟩ (fun H locs hP hS => ?_)
        refine lv_if_ne (tgt := 32) C.1 C.2.1 dX11_text_14 (by decide) (fun c14 => ?_) (fun c14 => ?_)
        · rw [if_neg c14] at h
          refine lv_iconst (v := (-1)) C.1 C.2.1 dX11_text_32 (by decide) ?_
          cases h
          exact rt_i C hP hS dX11_text_33
        · rw [if_pos c14] at h
          refine lv_aload_n C.1 C.2.1 dX11_text_17 rfl (lv_at hl 0 rfl) ?_
          refine gX_0_parser C hX11_text_0_X11 hK hP mX11_text_0_1 dX11_text_18 ?_
          refine lv_aload_n C.1 C.2.1 dX11_text_21 rfl (lv_at hl 2 rfl) ?_
          refine gX_4_letters C hX11_text_0_X8 hK hP mX11_text_0_3 dX11_text_22 ?_
          obtain ⟨⟨r18, u19⟩, hc20, h⟩ := bd_some h
          try dsimp only at h
          refine cg_i (As := [.ref (st 1)]) (rest := []) (AX_ge hJ) C hK hP hS (metX5_faultBy_2_as1 l D cy ad st hJ _  hc20) (cwV 1 C.2.2.2.2.2.1 gX11_text_X5_faultBy rfl rfl rfl (by decide +kernel) ⟨(Nat.le_of_ble_eq_true rfl), (Nat.le_of_ble_eq_true rfl)⟩) 2 5 rfl rfl rfl hl.1 rfl (Nat.le_of_ble_eq_true rfl) dX11_text_25 ⟨Nat.zero_le _, Nat.zero_le _⟩ (fun H locs hP hS => ?_)
          refine lv_iconst (v := (-1)) C.1 C.2.1 dX11_text_28 (by decide) ?_
          refine lv_icmp_eq (tgt := 34) C.1 C.2.1 dX11_text_29 (by decide) (fun c29 => ?_) (fun c29 => ?_)
          · rw [if_pos c29] at h
            refine lv_aload_n C.1 C.2.1 dX11_text_34 rfl (lv_at hl 0 rfl) ?_
            refine gX_0_tape C hX11_text_0_X11 hK hP mX11_text_0_4 dX11_text_35 ?_
            refine lv_iconst (v := 0) C.1 C.2.1 dX11_text_38 (by decide) ?_
            refine pX_1_length C hX11_text_0_X9 hK hP hJ hS mX11_text_0_6 dX11_text_39 (fun H locs hP hS => ?_)
            obtain ⟨u21, hu22, h⟩ := lt_some h
            rw [← hu22] at hP
            refine lv_aload_n C.1 C.2.1 dX11_text_42 rfl (lv_at hl 2 rfl) ?_
            refine lv_aload_n C.1 C.2.1 dX11_text_43 rfl (lv_at hl 0 rfl) ?_
            refine gX_0_parser C hX11_text_0_X11 hK hP mX11_text_0_1 dX11_text_44 ?_
            obtain ⟨⟨r23, u24⟩, hc25, h⟩ := bd_some h
            try dsimp only at h
            refine cg_q (As := []) (rest := [.ref (ad 4)]) (AX_ge hJ) C hK hP hS (metX5_compiled_2 l D cy ad st hJ _  hc25) (cwV 0 C.2.2.2.2.2.1 gX11_text_X5_compiled rfl rfl rfl (by decide +kernel) ⟨(Nat.le_of_ble_eq_true rfl), (Nat.le_of_ble_eq_true rfl)⟩) 2 5 rfl rfl rfl hl.1 rfl (Nat.le_of_ble_eq_true rfl) dX11_text_47 ⟨Nat.zero_le _, Nat.zero_le _⟩ (fun H locs hP hS => ?_)
            exact absurd h (by intro q; cases q)
          · rw [if_neg c29] at h
            refine lv_iconst (v := (-1)) C.1 C.2.1 dX11_text_32 (by decide) ?_
            cases h
            exact rt_i C hP hS dX11_text_33
      · rw [if_neg c2_5] at h
        by_cases c2_6 : r1 = 6
        · rw [if_pos c2_6] at h
          subst c2_6
          refine W.eq (g2 := F0 m 5 ls [.ref (ad 5)]) rfl ?_
          refine lv_astore_n (lv' := [(2, .ref (ad 5)), (0, .ref (ad 0)), (1, .int x1)]) C.1 C.2.1 dX11_text_5 rfl hl (by decide) rfl (fun ls hl => ?_)
          replace hl := lv_sub (l' := [(0, .ref (ad 0)), (1, .int x1), (2, .ref (ad 5))]) hl [1, 2, 0] rfl
          refine lv_aload_n C.1 C.2.1 dX11_text_6 rfl (lv_at hl 2 rfl) ?_
          refine lv_ifnull C.1 C.2.1 dX11_text_7 ?_
          refine lv_aload_n C.1 C.2.1 dX11_text_10 rfl (lv_at hl 2 rfl) ?_
          obtain ⟨⟨r26, u27⟩, hc28, h⟩ := bd_some h
          try dsimp only at h
          refine cg_i (As := []) (rest := []) (AX_ge hJ) C hK hP hS (metX8_isFull_5 l D cy ad st hJ _  hc28) (cwV 0 C.2.2.2.2.2.1 gX11_text_X8_isFull rfl rfl rfl (by decide +kernel) ⟨(Nat.le_of_ble_eq_true rfl), (Nat.le_of_ble_eq_true rfl)⟩) 5 8 rfl rfl rfl hl.1 rfl (Nat.le_of_ble_eq_true rfl) dX11_text_11 ⟨Nat.zero_le _, Nat.zero_le _⟩ (fun H locs hP hS => ?_)
          refine lv_if_ne (tgt := 32) C.1 C.2.1 dX11_text_14 (by decide) (fun c14 => ?_) (fun c14 => ?_)
          · rw [if_neg c14] at h
            refine lv_iconst (v := (-1)) C.1 C.2.1 dX11_text_32 (by decide) ?_
            cases h
            exact rt_i C hP hS dX11_text_33
          · rw [if_pos c14] at h
            refine lv_aload_n C.1 C.2.1 dX11_text_17 rfl (lv_at hl 0 rfl) ?_
            refine gX_0_parser C hX11_text_0_X11 hK hP mX11_text_0_1 dX11_text_18 ?_
            refine lv_aload_n C.1 C.2.1 dX11_text_21 rfl (lv_at hl 2 rfl) ?_
            refine gX_5_letters C hX11_text_0_X8 hK hP mX11_text_0_3 dX11_text_22 ?_
            obtain ⟨⟨r29, u30⟩, hc31, h⟩ := bd_some h
            try dsimp only at h
            refine cg_i (As := [.ref (st 2)]) (rest := []) (AX_ge hJ) C hK hP hS (metX5_faultBy_2_as2 l D cy ad st hJ _  hc31) (cwV 1 C.2.2.2.2.2.1 gX11_text_X5_faultBy rfl rfl rfl (by decide +kernel) ⟨(Nat.le_of_ble_eq_true rfl), (Nat.le_of_ble_eq_true rfl)⟩) 2 5 rfl rfl rfl hl.1 rfl (Nat.le_of_ble_eq_true rfl) dX11_text_25 ⟨Nat.zero_le _, Nat.zero_le _⟩ (fun H locs hP hS => ?_)
            refine lv_iconst (v := (-1)) C.1 C.2.1 dX11_text_28 (by decide) ?_
            refine lv_icmp_eq (tgt := 34) C.1 C.2.1 dX11_text_29 (by decide) (fun c29 => ?_) (fun c29 => ?_)
            · rw [if_pos c29] at h
              refine lv_aload_n C.1 C.2.1 dX11_text_34 rfl (lv_at hl 0 rfl) ?_
              refine gX_0_tape C hX11_text_0_X11 hK hP mX11_text_0_4 dX11_text_35 ?_
              refine lv_iconst (v := 0) C.1 C.2.1 dX11_text_38 (by decide) ?_
              refine pX_1_length C hX11_text_0_X9 hK hP hJ hS mX11_text_0_6 dX11_text_39 (fun H locs hP hS => ?_)
              obtain ⟨u32, hu33, h⟩ := lt_some h
              rw [← hu33] at hP
              refine lv_aload_n C.1 C.2.1 dX11_text_42 rfl (lv_at hl 2 rfl) ?_
              refine lv_aload_n C.1 C.2.1 dX11_text_43 rfl (lv_at hl 0 rfl) ?_
              refine gX_0_parser C hX11_text_0_X11 hK hP mX11_text_0_1 dX11_text_44 ?_
              obtain ⟨⟨r34, u35⟩, hc36, h⟩ := bd_some h
              try dsimp only at h
              refine cg_q (As := []) (rest := [.ref (ad 5)]) (AX_ge hJ) C hK hP hS (metX5_compiled_2 l D cy ad st hJ _  hc36) (cwV 0 C.2.2.2.2.2.1 gX11_text_X5_compiled rfl rfl rfl (by decide +kernel) ⟨(Nat.le_of_ble_eq_true rfl), (Nat.le_of_ble_eq_true rfl)⟩) 2 5 rfl rfl rfl hl.1 rfl (Nat.le_of_ble_eq_true rfl) dX11_text_47 ⟨Nat.zero_le _, Nat.zero_le _⟩ (fun H locs hP hS => ?_)
              exact absurd h (by intro q; cases q)
            · rw [if_neg c29] at h
              refine lv_iconst (v := (-1)) C.1 C.2.1 dX11_text_32 (by decide) ?_
              cases h
              exact rt_i C hP hS dX11_text_33
        · rw [if_neg c2_6] at h
          exact absurd h (by intro q; cases q)
theorem metX11_text_0 (l : Launch) (D : va_G) (cy : Nat → ClassId) (ad st : Nat → Nat) (hJ : JX ad st) (sz : Nat) (x1 : Int32) {u : SX} {r : Int32} {u' : SX} (h : fX11_text_0 x1 u = some (r, u')) : Met l yX11_text wsX11_text rmX11_text_0 (va_Pc [.ref (ad 0), .int x1] (Px D [(cy 0, .int), (cy 1, .long), (cy 2, .boolean), (cy 3, .byte), (cy 4, .object "HissHorn$Text")] st (VX cy ad st) sz u)) (Qi D (VX cy ad st) (AX ad) sz r u') 0 0 (Ax (AX ad) sz) := by
  refine Met.ofW (cc := cX11_text) (maxL := 3) (ret := (some .int)) (by decide) rfl ?_
  intro p e s m args below meth c s₁ B hml hv
  obtain ⟨rfl, hsz, hP, hK⟩ := hv
  subst hsz
  have C : Cx RX11 cX11_text 3 (some .int) wsX11_text p s m _ meth c := ⟨B.exec, B.bytes, hml, B.returns, findClass_of_methodNamed B.named, atoms_spec (ws := wsX11_text) B.pre, B.notSynchronized⟩
  have hl := lv_entry ([.ref (ad 0), .int x1]) (n := 3) (Nat.le_of_ble_eq_true rfl)
  rw [lg_entry_eq]
  exact wX11_text_0 C hK hJ x1 h hP va_S.rf hl

theorem zdX8_has_0 : (and (and (and (and (zk cX8_has 0 (.iload_n 1) 1) (zk cX8_has 1 (.ifCond .lt 15) 3)) (zk cX8_has 16 (.iconst 0) 1)) (and (zk cX8_has 17 (.ireturn) 1) (zk cX8_has 4 (.iload_n 1) 1))) (and (and (and (zk cX8_has 5 (.aload_n 0) 1) (zk cX8_has 6 (.getfield 36) 3)) (zk cX8_has 9 (.if_icmp .ge 7) 3)) (and (zk cX8_has 12 (.iconst 1) 1) (zk cX8_has 13 (.goto 4) 3)))) = true := by decide +kernel
theorem dX8_has_0 : decode cX8_has 0 = .ok (.iload_n 1, 1) := zk_of (zk_l (zk_l (zk_l (zk_l zdX8_has_0))))
theorem dX8_has_1 : decode cX8_has 1 = .ok (.ifCond .lt 15, 3) := zk_of (zk_r (zk_l (zk_l (zk_l zdX8_has_0))))
theorem dX8_has_16 : decode cX8_has 16 = .ok (.iconst 0, 1) := zk_of (zk_r (zk_l (zk_l zdX8_has_0)))
theorem dX8_has_17 : decode cX8_has 17 = .ok (.ireturn, 1) := zk_of (zk_l (zk_r (zk_l zdX8_has_0)))
theorem dX8_has_4 : decode cX8_has 4 = .ok (.iload_n 1, 1) := zk_of (zk_r (zk_r (zk_l zdX8_has_0)))
theorem dX8_has_5 : decode cX8_has 5 = .ok (.aload_n 0, 1) := zk_of (zk_l (zk_l (zk_l (zk_r zdX8_has_0))))
theorem dX8_has_6 : decode cX8_has 6 = .ok (.getfield 36, 3) := zk_of (zk_r (zk_l (zk_l (zk_r zdX8_has_0))))
theorem dX8_has_9 : decode cX8_has 9 = .ok (.if_icmp .ge 7, 3) := zk_of (zk_r (zk_l (zk_r zdX8_has_0)))
theorem dX8_has_12 : decode cX8_has 12 = .ok (.iconst 1, 1) := zk_of (zk_l (zk_r (zk_r zdX8_has_0)))
theorem dX8_has_13 : decode cX8_has 13 = .ok (.goto 4, 3) := zk_of (zk_r (zk_r (zk_r zdX8_has_0)))
/-- HissHorn$Shelf.has(I)Z of cell 3 -/
def rmX8_has_3 : Room := { frames := 0, cells := 0, slots := 0, locals := 0 }
theorem hX8_has_3_X8 : ∀ w ∈ u_ws RX8 TX8 5, w ∈ wsX8_has := fun w h => (List.mem_cons_of_mem _ (List.mem_append_right _ h))
theorem mX8_has_3_1 : Cond.fieldLink RX8 36 "HissHorn$Shelf" "size" "I" ∈ wsX8_has := (List.mem_cons_of_mem _ (List.mem_append_left _ (List.mem_of_getElem? (i := 0) rfl)))
def fX8_has_3 (x1 : Int32) (u : SX) : Option (Int32 × SX) := (if x1 < 0 then (gd (isB 0) (some (0, u))) else (if (u.1 5) ≤ x1 then (gd (isB 0) (some (0, u))) else (gd (isB 1) (some (1, u)))))
set_option maxHeartbeats 4000000 in
set_option maxRecDepth 100000 in
theorem wX8_has_3 {p : Program} {l : Launch} {e : Env} {s : State} {m : MethodId} {args : Array Value} {below : List Frame} {meth : Method} {c : Code} {D : va_G} {cy : Nat → ClassId} {ad st : Nat → Nat} (C : Cx RX8 cX8_has 2 (some .boolean) wsX8_has p s m args meth c) (hK : Ky D [(cy 0, .int), (cy 1, .long), (cy 2, .boolean), (cy 3, .byte), (cy 4, .object "HissHorn$Text")] st s) (hJ : JX ad st) (x1 : Int32) {u : SX} {r : Int32} {u' : SX} {H : Heap} {locs : List Loc} {ls : Array Slot} (h : fX8_has_3 x1 u = some (r, u')) (hP : va_P D vwCl (VX cy ad st u) H) (hS : va_S (Ax (AX ad) s.heap.size) s.heap H locs) (hl : lv_has ls 2 [(0, .ref (ad 3)), (1, .int x1)]) : W p l e rmX8_has_3 s m args below meth c H locs 0 0 (MQ below (Qi D (VX cy ad st) (AX ad) s.heap.size r u') args s 0 0 (Ax (AX ad) s.heap.size)) (F0 m 0 ls []) := by
  unfold fX8_has_3 at h
  refine lv_iload_n C.1 C.2.1 dX8_has_0 rfl (lv_at hl 1 rfl) ?_
  refine lv_if_lt (tgt := 16) C.1 C.2.1 dX8_has_1 (by decide) (fun c1 => ?_) (fun c1 => ?_)
  · rw [if_pos c1] at h
    refine lv_iconst (v := 0) C.1 C.2.1 dX8_has_16 (by decide) ?_
    obtain ⟨hg1, h⟩ := gd_some h
    cases h
    exact rt_z hg1 C hP hS dX8_has_17
  · rw [if_neg c1] at h
    refine lv_iload_n C.1 C.2.1 dX8_has_4 rfl (lv_at hl 1 rfl) ?_
    refine lv_aload_n C.1 C.2.1 dX8_has_5 rfl (lv_at hl 0 rfl) ?_
    refine gX_3_size C hX8_has_3_X8 hK hP mX8_has_3_1 dX8_has_6 ?_
    refine lv_icmp_ge (tgt := 16) C.1 C.2.1 dX8_has_9 (by decide) (fun c9 => ?_) (fun c9 => ?_)
    · rw [if_pos c9] at h
      refine lv_iconst (v := 0) C.1 C.2.1 dX8_has_16 (by decide) ?_
      obtain ⟨hg2, h⟩ := gd_some h
      cases h
      exact rt_z hg2 C hP hS dX8_has_17
    · rw [if_neg c9] at h
      refine lv_iconst (v := 1) C.1 C.2.1 dX8_has_12 (by decide) ?_
      refine lv_goto (tgt := 17) C.1 C.2.1 dX8_has_13 (by decide) ?_
      obtain ⟨hg3, h⟩ := gd_some h
      cases h
      exact rt_z hg3 C hP hS dX8_has_17
theorem metX8_has_3 (l : Launch) (D : va_G) (cy : Nat → ClassId) (ad st : Nat → Nat) (hJ : JX ad st) (sz : Nat) (x1 : Int32) {u : SX} {r : Int32} {u' : SX} (h : fX8_has_3 x1 u = some (r, u')) : Met l yX8_has wsX8_has rmX8_has_3 (va_Pc [.ref (ad 3), .int x1] (Px D [(cy 0, .int), (cy 1, .long), (cy 2, .boolean), (cy 3, .byte), (cy 4, .object "HissHorn$Text")] st (VX cy ad st) sz u)) (Qi D (VX cy ad st) (AX ad) sz r u') 0 0 (Ax (AX ad) sz) := by
  refine Met.ofW (cc := cX8_has) (maxL := 2) (ret := (some .boolean)) (by decide) rfl ?_
  intro p e s m args below meth c s₁ B hml hv
  obtain ⟨rfl, hsz, hP, hK⟩ := hv
  subst hsz
  have C : Cx RX8 cX8_has 2 (some .boolean) wsX8_has p s m _ meth c := ⟨B.exec, B.bytes, hml, B.returns, findClass_of_methodNamed B.named, atoms_spec (ws := wsX8_has) B.pre, B.notSynchronized⟩
  have hl := lv_entry ([.ref (ad 3), .int x1]) (n := 2) (Nat.le_of_ble_eq_true rfl)
  rw [lg_entry_eq]
  exact wX8_has_3 C hK hJ x1 h hP va_S.rf hl

theorem zdX11_isAim_0 : (and (and (and (and (and (zk cX11_isAim 0 (.iload_n 0) 1) (zk cX11_isAim 1 (.iconst 0) 1)) (and (zk cX11_isAim 2 (.bipush 15) 2) (zk cX11_isAim 4 (.invokestatic 107) 3))) (and (and (zk cX11_isAim 7 (.ifCond .eq 48) 3) (zk cX11_isAim 55 (.iconst 0) 1)) (and (zk cX11_isAim 56 (.ireturn) 1) (zk cX11_isAim 10 (.iload_n 1) 1)))) (and (and (and (zk cX11_isAim 11 (.iconst 0) 1) (zk cX11_isAim 12 (.bipush 9) 2)) (and (zk cX11_isAim 14 (.invokestatic 107) 3) (zk cX11_isAim 17 (.ifCond .eq 38) 3))) (and (and (zk cX11_isAim 20 (.iload_n 2) 1) (zk cX11_isAim 21 (.iconst 0) 1)) (zk cX11_isAim 22 (.bipush 23) 2)))) (and (and (and (and (zk cX11_isAim 24 (.invokestatic 107) 3) (zk cX11_isAim 27 (.ifCond .eq 28) 3)) (and (zk cX11_isAim 30 (.iload_n 3) 1) (zk cX11_isAim 31 (.iconst 0) 1))) (and (and (zk cX11_isAim 32 (.bipush 9) 2) (zk cX11_isAim 34 (.invokestatic 107) 3)) (zk cX11_isAim 37 (.ifCond .eq 18) 3))) (and (and (and (zk cX11_isAim 40 (.iload 4) 2) (zk cX11_isAim 42 (.iconst 1) 1)) (and (zk cX11_isAim 43 (.bipush 40) 2) (zk cX11_isAim 45 (.invokestatic 107) 3))) (and (and (zk cX11_isAim 48 (.ifCond .eq 7) 3) (zk cX11_isAim 51 (.iconst 1) 1)) (zk cX11_isAim 52 (.goto 4) 3))))) = true := by decide +kernel
theorem dX11_isAim_0 : decode cX11_isAim 0 = .ok (.iload_n 0, 1) := zk_of (zk_l (zk_l (zk_l (zk_l (zk_l zdX11_isAim_0)))))
theorem dX11_isAim_1 : decode cX11_isAim 1 = .ok (.iconst 0, 1) := zk_of (zk_r (zk_l (zk_l (zk_l (zk_l zdX11_isAim_0)))))
theorem dX11_isAim_2 : decode cX11_isAim 2 = .ok (.bipush 15, 2) := zk_of (zk_l (zk_r (zk_l (zk_l (zk_l zdX11_isAim_0)))))
theorem dX11_isAim_4 : decode cX11_isAim 4 = .ok (.invokestatic 107, 3) := zk_of (zk_r (zk_r (zk_l (zk_l (zk_l zdX11_isAim_0)))))
theorem dX11_isAim_7 : decode cX11_isAim 7 = .ok (.ifCond .eq 48, 3) := zk_of (zk_l (zk_l (zk_r (zk_l (zk_l zdX11_isAim_0)))))
theorem dX11_isAim_55 : decode cX11_isAim 55 = .ok (.iconst 0, 1) := zk_of (zk_r (zk_l (zk_r (zk_l (zk_l zdX11_isAim_0)))))
theorem dX11_isAim_56 : decode cX11_isAim 56 = .ok (.ireturn, 1) := zk_of (zk_l (zk_r (zk_r (zk_l (zk_l zdX11_isAim_0)))))
theorem dX11_isAim_10 : decode cX11_isAim 10 = .ok (.iload_n 1, 1) := zk_of (zk_r (zk_r (zk_r (zk_l (zk_l zdX11_isAim_0)))))
theorem dX11_isAim_11 : decode cX11_isAim 11 = .ok (.iconst 0, 1) := zk_of (zk_l (zk_l (zk_l (zk_r (zk_l zdX11_isAim_0)))))
theorem dX11_isAim_12 : decode cX11_isAim 12 = .ok (.bipush 9, 2) := zk_of (zk_r (zk_l (zk_l (zk_r (zk_l zdX11_isAim_0)))))
theorem dX11_isAim_14 : decode cX11_isAim 14 = .ok (.invokestatic 107, 3) := zk_of (zk_l (zk_r (zk_l (zk_r (zk_l zdX11_isAim_0)))))
theorem dX11_isAim_17 : decode cX11_isAim 17 = .ok (.ifCond .eq 38, 3) := zk_of (zk_r (zk_r (zk_l (zk_r (zk_l zdX11_isAim_0)))))
theorem dX11_isAim_20 : decode cX11_isAim 20 = .ok (.iload_n 2, 1) := zk_of (zk_l (zk_l (zk_r (zk_r (zk_l zdX11_isAim_0)))))
theorem dX11_isAim_21 : decode cX11_isAim 21 = .ok (.iconst 0, 1) := zk_of (zk_r (zk_l (zk_r (zk_r (zk_l zdX11_isAim_0)))))
theorem dX11_isAim_22 : decode cX11_isAim 22 = .ok (.bipush 23, 2) := zk_of (zk_r (zk_r (zk_r (zk_l zdX11_isAim_0))))
theorem dX11_isAim_24 : decode cX11_isAim 24 = .ok (.invokestatic 107, 3) := zk_of (zk_l (zk_l (zk_l (zk_l (zk_r zdX11_isAim_0)))))
theorem dX11_isAim_27 : decode cX11_isAim 27 = .ok (.ifCond .eq 28, 3) := zk_of (zk_r (zk_l (zk_l (zk_l (zk_r zdX11_isAim_0)))))
theorem dX11_isAim_30 : decode cX11_isAim 30 = .ok (.iload_n 3, 1) := zk_of (zk_l (zk_r (zk_l (zk_l (zk_r zdX11_isAim_0)))))
theorem dX11_isAim_31 : decode cX11_isAim 31 = .ok (.iconst 0, 1) := zk_of (zk_r (zk_r (zk_l (zk_l (zk_r zdX11_isAim_0)))))
theorem dX11_isAim_32 : decode cX11_isAim 32 = .ok (.bipush 9, 2) := zk_of (zk_l (zk_l (zk_r (zk_l (zk_r zdX11_isAim_0)))))
theorem dX11_isAim_34 : decode cX11_isAim 34 = .ok (.invokestatic 107, 3) := zk_of (zk_r (zk_l (zk_r (zk_l (zk_r zdX11_isAim_0)))))
theorem dX11_isAim_37 : decode cX11_isAim 37 = .ok (.ifCond .eq 18, 3) := zk_of (zk_r (zk_r (zk_l (zk_r zdX11_isAim_0))))
theorem dX11_isAim_40 : decode cX11_isAim 40 = .ok (.iload 4, 2) := zk_of (zk_l (zk_l (zk_l (zk_r (zk_r zdX11_isAim_0)))))
theorem dX11_isAim_42 : decode cX11_isAim 42 = .ok (.iconst 1, 1) := zk_of (zk_r (zk_l (zk_l (zk_r (zk_r zdX11_isAim_0)))))
theorem dX11_isAim_43 : decode cX11_isAim 43 = .ok (.bipush 40, 2) := zk_of (zk_l (zk_r (zk_l (zk_r (zk_r zdX11_isAim_0)))))
theorem dX11_isAim_45 : decode cX11_isAim 45 = .ok (.invokestatic 107, 3) := zk_of (zk_r (zk_r (zk_l (zk_r (zk_r zdX11_isAim_0)))))
theorem dX11_isAim_48 : decode cX11_isAim 48 = .ok (.ifCond .eq 7, 3) := zk_of (zk_l (zk_l (zk_r (zk_r (zk_r zdX11_isAim_0)))))
theorem dX11_isAim_51 : decode cX11_isAim 51 = .ok (.iconst 1, 1) := zk_of (zk_r (zk_l (zk_r (zk_r (zk_r zdX11_isAim_0)))))
theorem dX11_isAim_52 : decode cX11_isAim 52 = .ok (.goto 4, 3) := zk_of (zk_r (zk_r (zk_r (zk_r zdX11_isAim_0))))
set_option maxRecDepth 20000 in
theorem ggX11_isAim_X11_within : GoodIn wsX11_isAim wsX11_within := goodIn_r _ [4] rfl (by decide +kernel)
set_option maxRecDepth 20000 in
theorem gX11_isAim_X11_within : GoodIn wsX11_isAim (va_wsS RX11 107 yX11_within wsX11_within) := goodIn_app (goodIn_of _ (by decide +kernel)) ggX11_isAim_X11_within
/-- HissHorn.isAim(IIIII)Z -/
def rmX11_isAim : Room := { frames := 1, cells := 0, slots := 0, locals := 22 }
def fX11_isAim (x0 : Int32) (x1 : Int32) (x2 : Int32) (x3 : Int32) (x4 : Int32) : Option Int32 := ((fX11_within x0 0 15).bind fun r1 => (if r1 = 0 then (gd (isB 0) (some 0)) else ((fX11_within x1 0 9).bind fun r5 => (if r5 = 0 then (gd (isB 0) (some 0)) else ((fX11_within x2 0 23).bind fun r9 => (if r9 = 0 then (gd (isB 0) (some 0)) else ((fX11_within x3 0 9).bind fun r13 => (if r13 = 0 then (gd (isB 0) (some 0)) else ((fX11_within x4 1 40).bind fun r17 => (if r17 = 0 then (gd (isB 0) (some 0)) else (gd (isB 1) (some 1))))))))))))
set_option maxHeartbeats 4000000 in
set_option maxRecDepth 100000 in
theorem wX11_isAim {p : Program} {l : Launch} {e : Env} {s : State} {m : MethodId} {args : Array Value} {below : List Frame} {meth : Method} {c : Code} {D : va_G} {cy : Nat → ClassId} {st : Nat → Nat} (C : Cx RX11 cX11_isAim 5 (some .boolean) wsX11_isAim p s m args meth c) (hK : Ky D [(cy 0, .int), (cy 1, .long), (cy 2, .boolean), (cy 3, .byte), (cy 4, .object "HissHorn$Text")] st s) (x0 : Int32) (x1 : Int32) (x2 : Int32) (x3 : Int32) (x4 : Int32) {r : Int32} {H : Heap} {locs : List Loc} {ls : Array Slot} (h : fX11_isAim x0 x1 x2 x3 x4 = some r) (hP : va_P D vwCl (V0 u00) H) (hS : va_S (Ax (A0) s.heap.size) s.heap H locs) (hl : lv_has ls 5 [(0, .int x0), (1, .int x1), (2, .int x2), (3, .int x3), (4, .int x4)]) : W p l e rmX11_isAim s m args below meth c H locs 0 0 (MQ below (Qi D (V0) (A0) s.heap.size r u00) args s 0 0 (Ax (A0) s.heap.size)) (F0 m 0 ls []) := by
  unfold fX11_isAim at h
  refine lv_iload_n C.1 C.2.1 dX11_isAim_0 rfl (lv_at hl 0 rfl) ?_
  refine lv_iconst (v := 0) C.1 C.2.1 dX11_isAim_1 (by decide) ?_
  refine lv_bipush (v := 15) C.1 C.2.1 dX11_isAim_2 (by decide) ?_
  obtain ⟨r1, hc3, h⟩ := bd_some h
  refine cs_i (As := [.int x0, .int 0, .int 15]) (rest := []) A0_ge C hK hP hS (metX11_within l D cy st _ x0 0 15 hc3) (va_cwS 3 C.2.2.2.2.2.1 gX11_isAim_X11_within rfl rfl rfl (by decide +kernel) ⟨(Nat.le_of_ble_eq_true rfl), (Nat.le_of_ble_eq_true rfl)⟩) rfl hl.1 rfl (Nat.le_of_ble_eq_true rfl) dX11_isAim_4 ⟨Nat.zero_le _, Nat.zero_le _⟩ (fun H locs hP hS => ?_)
  refine lv_if_eq (tgt := 55) C.1 C.2.1 dX11_isAim_7 (by decide) (fun c7 => ?_) (fun c7 => ?_)
  · rw [if_pos c7] at h
    refine lv_iconst (v := 0) C.1 C.2.1 dX11_isAim_55 (by decide) ?_
    obtain ⟨hg4, h⟩ := gd_some h
    cases h
    exact rt_z hg4 C hP hS dX11_isAim_56
  · rw [if_neg c7] at h
    refine lv_iload_n C.1 C.2.1 dX11_isAim_10 rfl (lv_at hl 1 rfl) ?_
    refine lv_iconst (v := 0) C.1 C.2.1 dX11_isAim_11 (by decide) ?_
    refine lv_bipush (v := 9) C.1 C.2.1 dX11_isAim_12 (by decide) ?_
    obtain ⟨r5, hc7, h⟩ := bd_some h
    refine cs_i (As := [.int x1, .int 0, .int 9]) (rest := []) A0_ge C hK hP hS (metX11_within l D cy st _ x1 0 9 hc7) (va_cwS 3 C.2.2.2.2.2.1 gX11_isAim_X11_within rfl rfl rfl (by decide +kernel) ⟨(Nat.le_of_ble_eq_true rfl), (Nat.le_of_ble_eq_true rfl)⟩) rfl hl.1 rfl (Nat.le_of_ble_eq_true rfl) dX11_isAim_14 ⟨Nat.zero_le _, Nat.zero_le _⟩ (fun H locs hP hS => ?_)
    refine lv_if_eq (tgt := 55) C.1 C.2.1 dX11_isAim_17 (by decide) (fun c17 => ?_) (fun c17 => ?_)
    · rw [if_pos c17] at h
      refine lv_iconst (v := 0) C.1 C.2.1 dX11_isAim_55 (by decide) ?_
      obtain ⟨hg8, h⟩ := gd_some h
      cases h
      exact rt_z hg8 C hP hS dX11_isAim_56
    · rw [if_neg c17] at h
      refine lv_iload_n C.1 C.2.1 dX11_isAim_20 rfl (lv_at hl 2 rfl) ?_
      refine lv_iconst (v := 0) C.1 C.2.1 dX11_isAim_21 (by decide) ?_
      refine lv_bipush (v := 23) C.1 C.2.1 dX11_isAim_22 (by decide) ?_
      obtain ⟨r9, hc11, h⟩ := bd_some h
      refine cs_i (As := [.int x2, .int 0, .int 23]) (rest := []) A0_ge C hK hP hS (metX11_within l D cy st _ x2 0 23 hc11) (va_cwS 3 C.2.2.2.2.2.1 gX11_isAim_X11_within rfl rfl rfl (by decide +kernel) ⟨(Nat.le_of_ble_eq_true rfl), (Nat.le_of_ble_eq_true rfl)⟩) rfl hl.1 rfl (Nat.le_of_ble_eq_true rfl) dX11_isAim_24 ⟨Nat.zero_le _, Nat.zero_le _⟩ (fun H locs hP hS => ?_)
      refine lv_if_eq (tgt := 55) C.1 C.2.1 dX11_isAim_27 (by decide) (fun c27 => ?_) (fun c27 => ?_)
      · rw [if_pos c27] at h
        refine lv_iconst (v := 0) C.1 C.2.1 dX11_isAim_55 (by decide) ?_
        obtain ⟨hg12, h⟩ := gd_some h
        cases h
        exact rt_z hg12 C hP hS dX11_isAim_56
      · rw [if_neg c27] at h
        refine lv_iload_n C.1 C.2.1 dX11_isAim_30 rfl (lv_at hl 3 rfl) ?_
        refine lv_iconst (v := 0) C.1 C.2.1 dX11_isAim_31 (by decide) ?_
        refine lv_bipush (v := 9) C.1 C.2.1 dX11_isAim_32 (by decide) ?_
        obtain ⟨r13, hc15, h⟩ := bd_some h
        refine cs_i (As := [.int x3, .int 0, .int 9]) (rest := []) A0_ge C hK hP hS (metX11_within l D cy st _ x3 0 9 hc15) (va_cwS 3 C.2.2.2.2.2.1 gX11_isAim_X11_within rfl rfl rfl (by decide +kernel) ⟨(Nat.le_of_ble_eq_true rfl), (Nat.le_of_ble_eq_true rfl)⟩) rfl hl.1 rfl (Nat.le_of_ble_eq_true rfl) dX11_isAim_34 ⟨Nat.zero_le _, Nat.zero_le _⟩ (fun H locs hP hS => ?_)
        refine lv_if_eq (tgt := 55) C.1 C.2.1 dX11_isAim_37 (by decide) (fun c37 => ?_) (fun c37 => ?_)
        · rw [if_pos c37] at h
          refine lv_iconst (v := 0) C.1 C.2.1 dX11_isAim_55 (by decide) ?_
          obtain ⟨hg16, h⟩ := gd_some h
          cases h
          exact rt_z hg16 C hP hS dX11_isAim_56
        · rw [if_neg c37] at h
          refine lv_iload C.1 C.2.1 dX11_isAim_40 (lv_at hl 4 rfl) ?_
          refine lv_iconst (v := 1) C.1 C.2.1 dX11_isAim_42 (by decide) ?_
          refine lv_bipush (v := 40) C.1 C.2.1 dX11_isAim_43 (by decide) ?_
          obtain ⟨r17, hc19, h⟩ := bd_some h
          refine cs_i (As := [.int x4, .int 1, .int 40]) (rest := []) A0_ge C hK hP hS (metX11_within l D cy st _ x4 1 40 hc19) (va_cwS 3 C.2.2.2.2.2.1 gX11_isAim_X11_within rfl rfl rfl (by decide +kernel) ⟨(Nat.le_of_ble_eq_true rfl), (Nat.le_of_ble_eq_true rfl)⟩) rfl hl.1 rfl (Nat.le_of_ble_eq_true rfl) dX11_isAim_45 ⟨Nat.zero_le _, Nat.zero_le _⟩ (fun H locs hP hS => ?_)
          refine lv_if_eq (tgt := 55) C.1 C.2.1 dX11_isAim_48 (by decide) (fun c48 => ?_) (fun c48 => ?_)
          · rw [if_pos c48] at h
            refine lv_iconst (v := 0) C.1 C.2.1 dX11_isAim_55 (by decide) ?_
            obtain ⟨hg20, h⟩ := gd_some h
            cases h
            exact rt_z hg20 C hP hS dX11_isAim_56
          · rw [if_neg c48] at h
            refine lv_iconst (v := 1) C.1 C.2.1 dX11_isAim_51 (by decide) ?_
            refine lv_goto (tgt := 56) C.1 C.2.1 dX11_isAim_52 (by decide) ?_
            obtain ⟨hg21, h⟩ := gd_some h
            cases h
            exact rt_z hg21 C hP hS dX11_isAim_56
theorem metX11_isAim (l : Launch) (D : va_G) (cy : Nat → ClassId) (st : Nat → Nat) (sz : Nat) (x0 : Int32) (x1 : Int32) (x2 : Int32) (x3 : Int32) (x4 : Int32) {r : Int32} (h : fX11_isAim x0 x1 x2 x3 x4 = some r) : Met l yX11_isAim wsX11_isAim rmX11_isAim (va_Pc [.int x0, .int x1, .int x2, .int x3, .int x4] (Px D [(cy 0, .int), (cy 1, .long), (cy 2, .boolean), (cy 3, .byte), (cy 4, .object "HissHorn$Text")] st V0 sz u00)) (Qi D V0 A0 sz r u00) 0 0 (Ax A0 sz) := by
  refine Met.ofW (cc := cX11_isAim) (maxL := 5) (ret := (some .boolean)) (by decide) rfl ?_
  intro p e s m args below meth c s₁ B hml hv
  obtain ⟨rfl, hsz, hP, hK⟩ := hv
  subst hsz
  have C : Cx RX11 cX11_isAim 5 (some .boolean) wsX11_isAim p s m _ meth c := ⟨B.exec, B.bytes, hml, B.returns, findClass_of_methodNamed B.named, atoms_spec (ws := wsX11_isAim) B.pre, B.notSynchronized⟩
  have hl := lv_entry ([.int x0, .int x1, .int x2, .int x3, .int x4]) (n := 5) (Nat.le_of_ble_eq_true rfl)
  rw [lg_entry_eq]
  exact wX11_isAim C hK x0 x1 x2 x3 x4 h hP va_S.rf hl

theorem zdX8_set_0 : (and (and (and (and (zk cX8_set 0 (.iload_n 1) 1) (zk cX8_set 1 (.ifCond .lt 19) 3)) (and (zk cX8_set 20 (.return_) 1) (zk cX8_set 4 (.iload_n 1) 1))) (and (and (zk cX8_set 5 (.aload_n 0) 1) (zk cX8_set 6 (.getfield 33) 3)) (zk cX8_set 9 (.arraylength) 1))) (and (and (and (zk cX8_set 10 (.if_icmp .ge 10) 3) (zk cX8_set 13 (.aload_n 0) 1)) (zk cX8_set 14 (.getfield 33) 3)) (and (and (zk cX8_set 17 (.iload_n 1) 1) (zk cX8_set 18 (.iload_n 2) 1)) (zk cX8_set 19 (.iastore) 1)))) = true := by decide +kernel
theorem dX8_set_0 : decode cX8_set 0 = .ok (.iload_n 1, 1) := zk_of (zk_l (zk_l (zk_l (zk_l zdX8_set_0))))
theorem dX8_set_1 : decode cX8_set 1 = .ok (.ifCond .lt 19, 3) := zk_of (zk_r (zk_l (zk_l (zk_l zdX8_set_0))))
theorem dX8_set_20 : decode cX8_set 20 = .ok (.return_, 1) := zk_of (zk_l (zk_r (zk_l (zk_l zdX8_set_0))))
theorem dX8_set_4 : decode cX8_set 4 = .ok (.iload_n 1, 1) := zk_of (zk_r (zk_r (zk_l (zk_l zdX8_set_0))))
theorem dX8_set_5 : decode cX8_set 5 = .ok (.aload_n 0, 1) := zk_of (zk_l (zk_l (zk_r (zk_l zdX8_set_0))))
theorem dX8_set_6 : decode cX8_set 6 = .ok (.getfield 33, 3) := zk_of (zk_r (zk_l (zk_r (zk_l zdX8_set_0))))
theorem dX8_set_9 : decode cX8_set 9 = .ok (.arraylength, 1) := zk_of (zk_r (zk_r (zk_l zdX8_set_0)))
theorem dX8_set_10 : decode cX8_set 10 = .ok (.if_icmp .ge 10, 3) := zk_of (zk_l (zk_l (zk_l (zk_r zdX8_set_0))))
theorem dX8_set_13 : decode cX8_set 13 = .ok (.aload_n 0, 1) := zk_of (zk_r (zk_l (zk_l (zk_r zdX8_set_0))))
theorem dX8_set_14 : decode cX8_set 14 = .ok (.getfield 33, 3) := zk_of (zk_r (zk_l (zk_r zdX8_set_0)))
theorem dX8_set_17 : decode cX8_set 17 = .ok (.iload_n 1, 1) := zk_of (zk_l (zk_l (zk_r (zk_r zdX8_set_0))))
theorem dX8_set_18 : decode cX8_set 18 = .ok (.iload_n 2, 1) := zk_of (zk_r (zk_l (zk_r (zk_r zdX8_set_0))))
theorem dX8_set_19 : decode cX8_set 19 = .ok (.iastore, 1) := zk_of (zk_r (zk_r (zk_r zdX8_set_0)))
/-- HissHorn$Shelf.set(II)V of cell 3 -/
def rmX8_set_3 : Room := { frames := 0, cells := 0, slots := 0, locals := 0 }
theorem hX8_set_3_X8 : ∀ w ∈ u_ws RX8 TX8 5, w ∈ wsX8_set := fun w h => (List.mem_cons_of_mem _ (List.mem_append_right _ h))
theorem mX8_set_3_1 : Cond.fieldLink RX8 33 "HissHorn$Shelf" "values" "[I" ∈ wsX8_set := (List.mem_cons_of_mem _ (List.mem_append_left _ (List.mem_of_getElem? (i := 0) rfl)))
def fX8_set_3 (x1 : Int32) (x2 : Int32) (u : SX) : Option (Int32 × SX) := (if x1 < 0 then (some (0, u)) else (if 6 ≤ x1 then (some (0, u)) else (gd (inb x1 6) (lt (sA u 16 (upd (u.2.1 16) x1.toNatClampNeg x2)) fun u2 => (some (0, u2))))))
set_option maxHeartbeats 4000000 in
set_option maxRecDepth 100000 in
theorem wX8_set_3 {p : Program} {l : Launch} {e : Env} {s : State} {m : MethodId} {args : Array Value} {below : List Frame} {meth : Method} {c : Code} {D : va_G} {cy : Nat → ClassId} {ad st : Nat → Nat} (C : Cx RX8 cX8_set 3 none wsX8_set p s m args meth c) (hK : Ky D [(cy 0, .int), (cy 1, .long), (cy 2, .boolean), (cy 3, .byte), (cy 4, .object "HissHorn$Text")] st s) (hJ : JX ad st) (x1 : Int32) (x2 : Int32) {u : SX} {r : Int32} {u' : SX} {H : Heap} {locs : List Loc} {ls : Array Slot} (h : fX8_set_3 x1 x2 u = some (r, u')) (hP : va_P D vwCl (VX cy ad st u) H) (hS : va_S (Ax (AX ad) s.heap.size) s.heap H locs) (hl : lv_has ls 3 [(0, .ref (ad 3)), (1, .int x1), (2, .int x2)]) : W p l e rmX8_set_3 s m args below meth c H locs 0 0 (MQ below (Qv D (VX cy ad st) (AX ad) s.heap.size r u') args s 0 0 (Ax (AX ad) s.heap.size)) (F0 m 0 ls []) := by
  unfold fX8_set_3 at h
  refine lv_iload_n C.1 C.2.1 dX8_set_0 rfl (lv_at hl 1 rfl) ?_
  refine lv_if_lt (tgt := 20) C.1 C.2.1 dX8_set_1 (by decide) (fun c1 => ?_) (fun c1 => ?_)
  · rw [if_pos c1] at h
    cases h
    exact rt_v C hP hS dX8_set_20
  · rw [if_neg c1] at h
    refine lv_iload_n C.1 C.2.1 dX8_set_4 rfl (lv_at hl 1 rfl) ?_
    refine lv_aload_n C.1 C.2.1 dX8_set_5 rfl (lv_at hl 0 rfl) ?_
    refine gX_3_values C hX8_set_3_X8 hK hP mX8_set_3_1 dX8_set_6 ?_
    refine va_alen (v := 6) C.1 C.2.1 hK.1 hP 16 0 rfl rfl rfl dX8_set_9 ?_
    refine lv_icmp_ge (tgt := 20) C.1 C.2.1 dX8_set_10 (by decide) (fun c10 => ?_) (fun c10 => ?_)
    · rw [if_pos c10] at h
      cases h
      exact rt_v C hP hS dX8_set_20
    · rw [if_neg c10] at h
      refine lv_aload_n C.1 C.2.1 dX8_set_13 rfl (lv_at hl 0 rfl) ?_
      refine gX_3_values C hX8_set_3_X8 hK hP mX8_set_3_1 dX8_set_14 ?_
      refine lv_iload_n C.1 C.2.1 dX8_set_17 rfl (lv_at hl 1 rfl) ?_
      refine lv_iload_n C.1 C.2.1 dX8_set_18 rfl (lv_at hl 2 rfl) ?_
      obtain ⟨hg1, h⟩ := gd_some h
      refine tX_16 C hK hP hJ hS hg1 dX8_set_19 (fun H locs hP hS => ?_)
      obtain ⟨u2, hu3, h⟩ := lt_some h
      rw [← hu3] at hP
      cases h
      exact rt_v C hP hS dX8_set_20
theorem metX8_set_3 (l : Launch) (D : va_G) (cy : Nat → ClassId) (ad st : Nat → Nat) (hJ : JX ad st) (sz : Nat) (x1 : Int32) (x2 : Int32) {u : SX} {r : Int32} {u' : SX} (h : fX8_set_3 x1 x2 u = some (r, u')) : Met l yX8_set wsX8_set rmX8_set_3 (va_Pc [.ref (ad 3), .int x1, .int x2] (Px D [(cy 0, .int), (cy 1, .long), (cy 2, .boolean), (cy 3, .byte), (cy 4, .object "HissHorn$Text")] st (VX cy ad st) sz u)) (Qv D (VX cy ad st) (AX ad) sz r u') 0 0 (Ax (AX ad) sz) := by
  refine Met.ofW (cc := cX8_set) (maxL := 3) (ret := none) (by decide) rfl ?_
  intro p e s m args below meth c s₁ B hml hv
  obtain ⟨rfl, hsz, hP, hK⟩ := hv
  subst hsz
  have C : Cx RX8 cX8_set 3 none wsX8_set p s m _ meth c := ⟨B.exec, B.bytes, hml, B.returns, findClass_of_methodNamed B.named, atoms_spec (ws := wsX8_set) B.pre, B.notSynchronized⟩
  have hl := lv_entry ([.ref (ad 3), .int x1, .int x2]) (n := 3) (Nat.le_of_ble_eq_true rfl)
  rw [lg_entry_eq]
  exact wX8_set_3 C hK hJ x1 x2 h hP va_S.rf hl

theorem zdX8_setAim_0 : (and (and (and (and (and (zk cX8_setAim 0 (.aload_n 0) 1) (zk cX8_setAim 1 (.iconst 0) 1)) (and (zk cX8_setAim 2 (.iload_n 1) 1) (zk cX8_setAim 3 (.invokevirtual 44) 3))) (and (and (zk cX8_setAim 6 (.aload_n 0) 1) (zk cX8_setAim 7 (.iconst 1) 1)) (zk cX8_setAim 8 (.iload_n 2) 1))) (and (and (and (zk cX8_setAim 9 (.invokevirtual 44) 3) (zk cX8_setAim 12 (.aload_n 0) 1)) (zk cX8_setAim 13 (.iconst 2) 1)) (and (and (zk cX8_setAim 14 (.iload_n 3) 1) (zk cX8_setAim 15 (.invokevirtual 44) 3)) (zk cX8_setAim 18 (.aload_n 0) 1)))) (and (and (and (and (zk cX8_setAim 19 (.iconst 3) 1) (zk cX8_setAim 20 (.iload 4) 2)) (zk cX8_setAim 22 (.invokevirtual 44) 3)) (and (and (zk cX8_setAim 25 (.aload_n 0) 1) (zk cX8_setAim 26 (.iconst 4) 1)) (zk cX8_setAim 27 (.iload 5) 2))) (and (and (and (zk cX8_setAim 29 (.invokevirtual 44) 3) (zk cX8_setAim 32 (.aload_n 0) 1)) (zk cX8_setAim 33 (.iconst 5) 1)) (and (and (zk cX8_setAim 34 (.iload 6) 2) (zk cX8_setAim 36 (.invokevirtual 44) 3)) (zk cX8_setAim 39 (.return_) 1))))) = true := by decide +kernel
theorem dX8_setAim_0 : decode cX8_setAim 0 = .ok (.aload_n 0, 1) := zk_of (zk_l (zk_l (zk_l (zk_l (zk_l zdX8_setAim_0)))))
theorem dX8_setAim_1 : decode cX8_setAim 1 = .ok (.iconst 0, 1) := zk_of (zk_r (zk_l (zk_l (zk_l (zk_l zdX8_setAim_0)))))
theorem dX8_setAim_2 : decode cX8_setAim 2 = .ok (.iload_n 1, 1) := zk_of (zk_l (zk_r (zk_l (zk_l (zk_l zdX8_setAim_0)))))
theorem dX8_setAim_3 : decode cX8_setAim 3 = .ok (.invokevirtual 44, 3) := zk_of (zk_r (zk_r (zk_l (zk_l (zk_l zdX8_setAim_0)))))
theorem dX8_setAim_6 : decode cX8_setAim 6 = .ok (.aload_n 0, 1) := zk_of (zk_l (zk_l (zk_r (zk_l (zk_l zdX8_setAim_0)))))
theorem dX8_setAim_7 : decode cX8_setAim 7 = .ok (.iconst 1, 1) := zk_of (zk_r (zk_l (zk_r (zk_l (zk_l zdX8_setAim_0)))))
theorem dX8_setAim_8 : decode cX8_setAim 8 = .ok (.iload_n 2, 1) := zk_of (zk_r (zk_r (zk_l (zk_l zdX8_setAim_0))))
theorem dX8_setAim_9 : decode cX8_setAim 9 = .ok (.invokevirtual 44, 3) := zk_of (zk_l (zk_l (zk_l (zk_r (zk_l zdX8_setAim_0)))))
theorem dX8_setAim_12 : decode cX8_setAim 12 = .ok (.aload_n 0, 1) := zk_of (zk_r (zk_l (zk_l (zk_r (zk_l zdX8_setAim_0)))))
theorem dX8_setAim_13 : decode cX8_setAim 13 = .ok (.iconst 2, 1) := zk_of (zk_r (zk_l (zk_r (zk_l zdX8_setAim_0))))
theorem dX8_setAim_14 : decode cX8_setAim 14 = .ok (.iload_n 3, 1) := zk_of (zk_l (zk_l (zk_r (zk_r (zk_l zdX8_setAim_0)))))
theorem dX8_setAim_15 : decode cX8_setAim 15 = .ok (.invokevirtual 44, 3) := zk_of (zk_r (zk_l (zk_r (zk_r (zk_l zdX8_setAim_0)))))
theorem dX8_setAim_18 : decode cX8_setAim 18 = .ok (.aload_n 0, 1) := zk_of (zk_r (zk_r (zk_r (zk_l zdX8_setAim_0))))
theorem dX8_setAim_19 : decode cX8_setAim 19 = .ok (.iconst 3, 1) := zk_of (zk_l (zk_l (zk_l (zk_l (zk_r zdX8_setAim_0)))))
theorem dX8_setAim_20 : decode cX8_setAim 20 = .ok (.iload 4, 2) := zk_of (zk_r (zk_l (zk_l (zk_l (zk_r zdX8_setAim_0)))))
theorem dX8_setAim_22 : decode cX8_setAim 22 = .ok (.invokevirtual 44, 3) := zk_of (zk_r (zk_l (zk_l (zk_r zdX8_setAim_0))))
theorem dX8_setAim_25 : decode cX8_setAim 25 = .ok (.aload_n 0, 1) := zk_of (zk_l (zk_l (zk_r (zk_l (zk_r zdX8_setAim_0)))))
theorem dX8_setAim_26 : decode cX8_setAim 26 = .ok (.iconst 4, 1) := zk_of (zk_r (zk_l (zk_r (zk_l (zk_r zdX8_setAim_0)))))
theorem dX8_setAim_27 : decode cX8_setAim 27 = .ok (.iload 5, 2) := zk_of (zk_r (zk_r (zk_l (zk_r zdX8_setAim_0))))
theorem dX8_setAim_29 : decode cX8_setAim 29 = .ok (.invokevirtual 44, 3) := zk_of (zk_l (zk_l (zk_l (zk_r (zk_r zdX8_setAim_0)))))
theorem dX8_setAim_32 : decode cX8_setAim 32 = .ok (.aload_n 0, 1) := zk_of (zk_r (zk_l (zk_l (zk_r (zk_r zdX8_setAim_0)))))
theorem dX8_setAim_33 : decode cX8_setAim 33 = .ok (.iconst 5, 1) := zk_of (zk_r (zk_l (zk_r (zk_r zdX8_setAim_0))))
theorem dX8_setAim_34 : decode cX8_setAim 34 = .ok (.iload 6, 2) := zk_of (zk_l (zk_l (zk_r (zk_r (zk_r zdX8_setAim_0)))))
theorem dX8_setAim_36 : decode cX8_setAim 36 = .ok (.invokevirtual 44, 3) := zk_of (zk_r (zk_l (zk_r (zk_r (zk_r zdX8_setAim_0)))))
theorem dX8_setAim_39 : decode cX8_setAim 39 = .ok (.return_, 1) := zk_of (zk_r (zk_r (zk_r (zk_r zdX8_setAim_0))))
set_option maxRecDepth 20000 in
theorem ggX8_setAim_X8_set : GoodIn wsX8_setAim wsX8_set := goodIn_r _ [5, 6, 7, 8, 9, 10, 11] rfl (by decide +kernel)
set_option maxRecDepth 20000 in
theorem gX8_setAim_X8_set : GoodIn wsX8_setAim (wsV RX8 44 RX8 yX8_set wsX8_set) := goodIn_app (goodIn_of _ (by decide +kernel)) ggX8_setAim_X8_set
/-- HissHorn$Shelf.setAim(IIIIII)V of cell 3 -/
def rmX8_setAim_3 : Room := { frames := 1, cells := 0, slots := 0, locals := 22 }
def fX8_setAim_3 (x1 : Int32) (x2 : Int32) (x3 : Int32) (x4 : Int32) (x5 : Int32) (x6 : Int32) (u : SX) : Option (Int32 × SX) := ((fX8_set_3 0 x1 u).bind fun q => match q with | (r1, u2) => ((fX8_set_3 1 x2 u2).bind fun q => match q with | (r4, u5) => ((fX8_set_3 2 x3 u5).bind fun q => match q with | (r7, u8) => ((fX8_set_3 3 x4 u8).bind fun q => match q with | (r10, u11) => ((fX8_set_3 4 x5 u11).bind fun q => match q with | (r13, u14) => ((fX8_set_3 5 x6 u14).bind fun q => match q with | (r16, u17) => (some (0, u17))))))))
set_option maxHeartbeats 4000000 in
set_option maxRecDepth 100000 in
theorem wX8_setAim_3 {p : Program} {l : Launch} {e : Env} {s : State} {m : MethodId} {args : Array Value} {below : List Frame} {meth : Method} {c : Code} {D : va_G} {cy : Nat → ClassId} {ad st : Nat → Nat} (C : Cx RX8 cX8_setAim 7 none wsX8_setAim p s m args meth c) (hK : Ky D [(cy 0, .int), (cy 1, .long), (cy 2, .boolean), (cy 3, .byte), (cy 4, .object "HissHorn$Text")] st s) (hJ : JX ad st) (x1 : Int32) (x2 : Int32) (x3 : Int32) (x4 : Int32) (x5 : Int32) (x6 : Int32) {u : SX} {r : Int32} {u' : SX} {H : Heap} {locs : List Loc} {ls : Array Slot} (h : fX8_setAim_3 x1 x2 x3 x4 x5 x6 u = some (r, u')) (hP : va_P D vwCl (VX cy ad st u) H) (hS : va_S (Ax (AX ad) s.heap.size) s.heap H locs) (hl : lv_has ls 7 [(0, .ref (ad 3)), (1, .int x1), (2, .int x2), (3, .int x3), (4, .int x4), (5, .int x5), (6, .int x6)]) : W p l e rmX8_setAim_3 s m args below meth c H locs 0 0 (MQ below (Qv D (VX cy ad st) (AX ad) s.heap.size r u') args s 0 0 (Ax (AX ad) s.heap.size)) (F0 m 0 ls []) := by
  unfold fX8_setAim_3 at h
  refine lv_aload_n C.1 C.2.1 dX8_setAim_0 rfl (lv_at hl 0 rfl) ?_
  refine lv_iconst (v := 0) C.1 C.2.1 dX8_setAim_1 (by decide) ?_
  refine lv_iload_n C.1 C.2.1 dX8_setAim_2 rfl (lv_at hl 1 rfl) ?_
  obtain ⟨⟨r1, u2⟩, hc3, h⟩ := bd_some h
  try dsimp only at h
  refine cg_v (As := [.int 0, .int x1]) (rest := []) (AX_ge hJ) C hK hP hS (metX8_set_3 l D cy ad st hJ _ 0 x1 hc3) (cwV 2 C.2.2.2.2.2.1 gX8_setAim_X8_set rfl rfl rfl (by decide +kernel) ⟨(Nat.le_of_ble_eq_true rfl), (Nat.le_of_ble_eq_true rfl)⟩) 3 8 rfl rfl rfl hl.1 rfl (Nat.le_of_ble_eq_true rfl) dX8_setAim_3 ⟨Nat.zero_le _, Nat.zero_le _⟩ (fun H locs hP hS => ?_)
  refine lv_aload_n C.1 C.2.1 dX8_setAim_6 rfl (lv_at hl 0 rfl) ?_
  refine lv_iconst (v := 1) C.1 C.2.1 dX8_setAim_7 (by decide) ?_
  refine lv_iload_n C.1 C.2.1 dX8_setAim_8 rfl (lv_at hl 2 rfl) ?_
  obtain ⟨⟨r4, u5⟩, hc6, h⟩ := bd_some h
  try dsimp only at h
  refine cg_v (As := [.int 1, .int x2]) (rest := []) (AX_ge hJ) C hK hP hS (metX8_set_3 l D cy ad st hJ _ 1 x2 hc6) (cwV 2 C.2.2.2.2.2.1 gX8_setAim_X8_set rfl rfl rfl (by decide +kernel) ⟨(Nat.le_of_ble_eq_true rfl), (Nat.le_of_ble_eq_true rfl)⟩) 3 8 rfl rfl rfl hl.1 rfl (Nat.le_of_ble_eq_true rfl) dX8_setAim_9 ⟨Nat.zero_le _, Nat.zero_le _⟩ (fun H locs hP hS => ?_)
  refine lv_aload_n C.1 C.2.1 dX8_setAim_12 rfl (lv_at hl 0 rfl) ?_
  refine lv_iconst (v := 2) C.1 C.2.1 dX8_setAim_13 (by decide) ?_
  refine lv_iload_n C.1 C.2.1 dX8_setAim_14 rfl (lv_at hl 3 rfl) ?_
  obtain ⟨⟨r7, u8⟩, hc9, h⟩ := bd_some h
  try dsimp only at h
  refine cg_v (As := [.int 2, .int x3]) (rest := []) (AX_ge hJ) C hK hP hS (metX8_set_3 l D cy ad st hJ _ 2 x3 hc9) (cwV 2 C.2.2.2.2.2.1 gX8_setAim_X8_set rfl rfl rfl (by decide +kernel) ⟨(Nat.le_of_ble_eq_true rfl), (Nat.le_of_ble_eq_true rfl)⟩) 3 8 rfl rfl rfl hl.1 rfl (Nat.le_of_ble_eq_true rfl) dX8_setAim_15 ⟨Nat.zero_le _, Nat.zero_le _⟩ (fun H locs hP hS => ?_)
  refine lv_aload_n C.1 C.2.1 dX8_setAim_18 rfl (lv_at hl 0 rfl) ?_
  refine lv_iconst (v := 3) C.1 C.2.1 dX8_setAim_19 (by decide) ?_
  refine lv_iload C.1 C.2.1 dX8_setAim_20 (lv_at hl 4 rfl) ?_
  obtain ⟨⟨r10, u11⟩, hc12, h⟩ := bd_some h
  try dsimp only at h
  refine cg_v (As := [.int 3, .int x4]) (rest := []) (AX_ge hJ) C hK hP hS (metX8_set_3 l D cy ad st hJ _ 3 x4 hc12) (cwV 2 C.2.2.2.2.2.1 gX8_setAim_X8_set rfl rfl rfl (by decide +kernel) ⟨(Nat.le_of_ble_eq_true rfl), (Nat.le_of_ble_eq_true rfl)⟩) 3 8 rfl rfl rfl hl.1 rfl (Nat.le_of_ble_eq_true rfl) dX8_setAim_22 ⟨Nat.zero_le _, Nat.zero_le _⟩ (fun H locs hP hS => ?_)
  refine lv_aload_n C.1 C.2.1 dX8_setAim_25 rfl (lv_at hl 0 rfl) ?_
  refine lv_iconst (v := 4) C.1 C.2.1 dX8_setAim_26 (by decide) ?_
  refine lv_iload C.1 C.2.1 dX8_setAim_27 (lv_at hl 5 rfl) ?_
  obtain ⟨⟨r13, u14⟩, hc15, h⟩ := bd_some h
  try dsimp only at h
  refine cg_v (As := [.int 4, .int x5]) (rest := []) (AX_ge hJ) C hK hP hS (metX8_set_3 l D cy ad st hJ _ 4 x5 hc15) (cwV 2 C.2.2.2.2.2.1 gX8_setAim_X8_set rfl rfl rfl (by decide +kernel) ⟨(Nat.le_of_ble_eq_true rfl), (Nat.le_of_ble_eq_true rfl)⟩) 3 8 rfl rfl rfl hl.1 rfl (Nat.le_of_ble_eq_true rfl) dX8_setAim_29 ⟨Nat.zero_le _, Nat.zero_le _⟩ (fun H locs hP hS => ?_)
  refine lv_aload_n C.1 C.2.1 dX8_setAim_32 rfl (lv_at hl 0 rfl) ?_
  refine lv_iconst (v := 5) C.1 C.2.1 dX8_setAim_33 (by decide) ?_
  refine lv_iload C.1 C.2.1 dX8_setAim_34 (lv_at hl 6 rfl) ?_
  obtain ⟨⟨r16, u17⟩, hc18, h⟩ := bd_some h
  try dsimp only at h
  refine cg_v (As := [.int 5, .int x6]) (rest := []) (AX_ge hJ) C hK hP hS (metX8_set_3 l D cy ad st hJ _ 5 x6 hc18) (cwV 2 C.2.2.2.2.2.1 gX8_setAim_X8_set rfl rfl rfl (by decide +kernel) ⟨(Nat.le_of_ble_eq_true rfl), (Nat.le_of_ble_eq_true rfl)⟩) 3 8 rfl rfl rfl hl.1 rfl (Nat.le_of_ble_eq_true rfl) dX8_setAim_36 ⟨Nat.zero_le _, Nat.zero_le _⟩ (fun H locs hP hS => ?_)
  cases h
  exact rt_v C hP hS dX8_setAim_39
theorem metX8_setAim_3 (l : Launch) (D : va_G) (cy : Nat → ClassId) (ad st : Nat → Nat) (hJ : JX ad st) (sz : Nat) (x1 : Int32) (x2 : Int32) (x3 : Int32) (x4 : Int32) (x5 : Int32) (x6 : Int32) {u : SX} {r : Int32} {u' : SX} (h : fX8_setAim_3 x1 x2 x3 x4 x5 x6 u = some (r, u')) : Met l yX8_setAim wsX8_setAim rmX8_setAim_3 (va_Pc [.ref (ad 3), .int x1, .int x2, .int x3, .int x4, .int x5, .int x6] (Px D [(cy 0, .int), (cy 1, .long), (cy 2, .boolean), (cy 3, .byte), (cy 4, .object "HissHorn$Text")] st (VX cy ad st) sz u)) (Qv D (VX cy ad st) (AX ad) sz r u') 0 0 (Ax (AX ad) sz) := by
  refine Met.ofW (cc := cX8_setAim) (maxL := 7) (ret := none) (by decide) rfl ?_
  intro p e s m args below meth c s₁ B hml hv
  obtain ⟨rfl, hsz, hP, hK⟩ := hv
  subst hsz
  have C : Cx RX8 cX8_setAim 7 none wsX8_setAim p s m _ meth c := ⟨B.exec, B.bytes, hml, B.returns, findClass_of_methodNamed B.named, atoms_spec (ws := wsX8_setAim) B.pre, B.notSynchronized⟩
  have hl := lv_entry ([.ref (ad 3), .int x1, .int x2, .int x3, .int x4, .int x5, .int x6]) (n := 7) (Nat.le_of_ble_eq_true rfl)
  rw [lg_entry_eq]
  exact wX8_setAim_3 C hK hJ x1 x2 x3 x4 x5 x6 h hP va_S.rf hl

theorem zdX10_join_0 : (and (and (and (and (and (zk cX10_join 0 (.iload_n 0) 1) (zk cX10_join 1 (.tableswitch 195 38 62 #[177, 195, 195, 195, 123, 115, 195, 119, 195, 127, 195, 195, 195, 195, 195, 195, 195, 195, 195, 195, 195, 195, 153, 141, 165]) 115)) (and (zk cX10_join 178 (.lload_n 1) 1) (zk cX10_join 179 (.lconst 0) 1))) (and (and (zk cX10_join 180 (.lcmp) 1) (zk cX10_join 181 (.ifCond .eq 13) 3)) (and (zk cX10_join 194 (.lconst 0) 1) (zk cX10_join 195 (.lreturn) 1)))) (and (and (and (zk cX10_join 184 (.lload_n 3) 1) (zk cX10_join 185 (.lconst 0) 1)) (and (zk cX10_join 186 (.lcmp) 1) (zk cX10_join 187 (.ifCond .eq 7) 3))) (and (and (zk cX10_join 190 (.lconst 1) 1) (zk cX10_join 191 (.goto 4) 3)) (and (zk cX10_join 196 (.lload_n 1) 1) (zk cX10_join 197 (.lconst 0) 1))))) (and (and (and (and (zk cX10_join 198 (.lcmp) 1) (zk cX10_join 199 (.ifCond .ne 9) 3)) (and (zk cX10_join 208 (.lconst 1) 1) (zk cX10_join 209 (.goto 4) 3))) (and (and (zk cX10_join 213 (.lreturn) 1) (zk cX10_join 202 (.lload_n 3) 1)) (and (zk cX10_join 203 (.lconst 0) 1) (zk cX10_join 204 (.lcmp) 1)))) (and (and (and (zk cX10_join 205 (.ifCond .eq 7) 3) (zk cX10_join 212 (.lconst 0) 1)) (and (zk cX10_join 124 (.lload_n 1) 1) (zk cX10_join 125 (.lload_n 3) 1))) (and (and (zk cX10_join 126 (.lmul) 1) (zk cX10_join 127 (.lreturn) 1)) (and (zk cX10_join 116 (.lload_n 1) 1) (zk cX10_join 117 (.lload_n 3) 1)))))) = true := by decide +kernel
theorem dX10_join_0 : decode cX10_join 0 = .ok (.iload_n 0, 1) := zk_of (zk_l (zk_l (zk_l (zk_l (zk_l zdX10_join_0)))))
theorem dX10_join_1 : decode cX10_join 1 = .ok (.tableswitch 195 38 62 #[177, 195, 195, 195, 123, 115, 195, 119, 195, 127, 195, 195, 195, 195, 195, 195, 195, 195, 195, 195, 195, 195, 153, 141, 165], 115) := zk_of (zk_r (zk_l (zk_l (zk_l (zk_l zdX10_join_0)))))
theorem dX10_join_178 : decode cX10_join 178 = .ok (.lload_n 1, 1) := zk_of (zk_l (zk_r (zk_l (zk_l (zk_l zdX10_join_0)))))
theorem dX10_join_179 : decode cX10_join 179 = .ok (.lconst 0, 1) := zk_of (zk_r (zk_r (zk_l (zk_l (zk_l zdX10_join_0)))))
theorem dX10_join_180 : decode cX10_join 180 = .ok (.lcmp, 1) := zk_of (zk_l (zk_l (zk_r (zk_l (zk_l zdX10_join_0)))))
theorem dX10_join_181 : decode cX10_join 181 = .ok (.ifCond .eq 13, 3) := zk_of (zk_r (zk_l (zk_r (zk_l (zk_l zdX10_join_0)))))
theorem dX10_join_194 : decode cX10_join 194 = .ok (.lconst 0, 1) := zk_of (zk_l (zk_r (zk_r (zk_l (zk_l zdX10_join_0)))))
theorem dX10_join_195 : decode cX10_join 195 = .ok (.lreturn, 1) := zk_of (zk_r (zk_r (zk_r (zk_l (zk_l zdX10_join_0)))))
theorem dX10_join_184 : decode cX10_join 184 = .ok (.lload_n 3, 1) := zk_of (zk_l (zk_l (zk_l (zk_r (zk_l zdX10_join_0)))))
theorem dX10_join_185 : decode cX10_join 185 = .ok (.lconst 0, 1) := zk_of (zk_r (zk_l (zk_l (zk_r (zk_l zdX10_join_0)))))
theorem dX10_join_186 : decode cX10_join 186 = .ok (.lcmp, 1) := zk_of (zk_l (zk_r (zk_l (zk_r (zk_l zdX10_join_0)))))
theorem dX10_join_187 : decode cX10_join 187 = .ok (.ifCond .eq 7, 3) := zk_of (zk_r (zk_r (zk_l (zk_r (zk_l zdX10_join_0)))))
theorem dX10_join_190 : decode cX10_join 190 = .ok (.lconst 1, 1) := zk_of (zk_l (zk_l (zk_r (zk_r (zk_l zdX10_join_0)))))
theorem dX10_join_191 : decode cX10_join 191 = .ok (.goto 4, 3) := zk_of (zk_r (zk_l (zk_r (zk_r (zk_l zdX10_join_0)))))
theorem dX10_join_196 : decode cX10_join 196 = .ok (.lload_n 1, 1) := zk_of (zk_l (zk_r (zk_r (zk_r (zk_l zdX10_join_0)))))
theorem dX10_join_197 : decode cX10_join 197 = .ok (.lconst 0, 1) := zk_of (zk_r (zk_r (zk_r (zk_r (zk_l zdX10_join_0)))))
theorem dX10_join_198 : decode cX10_join 198 = .ok (.lcmp, 1) := zk_of (zk_l (zk_l (zk_l (zk_l (zk_r zdX10_join_0)))))
theorem dX10_join_199 : decode cX10_join 199 = .ok (.ifCond .ne 9, 3) := zk_of (zk_r (zk_l (zk_l (zk_l (zk_r zdX10_join_0)))))
theorem dX10_join_208 : decode cX10_join 208 = .ok (.lconst 1, 1) := zk_of (zk_l (zk_r (zk_l (zk_l (zk_r zdX10_join_0)))))
theorem dX10_join_209 : decode cX10_join 209 = .ok (.goto 4, 3) := zk_of (zk_r (zk_r (zk_l (zk_l (zk_r zdX10_join_0)))))
theorem dX10_join_213 : decode cX10_join 213 = .ok (.lreturn, 1) := zk_of (zk_l (zk_l (zk_r (zk_l (zk_r zdX10_join_0)))))
theorem dX10_join_202 : decode cX10_join 202 = .ok (.lload_n 3, 1) := zk_of (zk_r (zk_l (zk_r (zk_l (zk_r zdX10_join_0)))))
theorem dX10_join_203 : decode cX10_join 203 = .ok (.lconst 0, 1) := zk_of (zk_l (zk_r (zk_r (zk_l (zk_r zdX10_join_0)))))
theorem dX10_join_204 : decode cX10_join 204 = .ok (.lcmp, 1) := zk_of (zk_r (zk_r (zk_r (zk_l (zk_r zdX10_join_0)))))
theorem dX10_join_205 : decode cX10_join 205 = .ok (.ifCond .eq 7, 3) := zk_of (zk_l (zk_l (zk_l (zk_r (zk_r zdX10_join_0)))))
theorem dX10_join_212 : decode cX10_join 212 = .ok (.lconst 0, 1) := zk_of (zk_r (zk_l (zk_l (zk_r (zk_r zdX10_join_0)))))
theorem dX10_join_124 : decode cX10_join 124 = .ok (.lload_n 1, 1) := zk_of (zk_l (zk_r (zk_l (zk_r (zk_r zdX10_join_0)))))
theorem dX10_join_125 : decode cX10_join 125 = .ok (.lload_n 3, 1) := zk_of (zk_r (zk_r (zk_l (zk_r (zk_r zdX10_join_0)))))
theorem dX10_join_126 : decode cX10_join 126 = .ok (.lmul, 1) := zk_of (zk_l (zk_l (zk_r (zk_r (zk_r zdX10_join_0)))))
theorem dX10_join_127 : decode cX10_join 127 = .ok (.lreturn, 1) := zk_of (zk_r (zk_l (zk_r (zk_r (zk_r zdX10_join_0)))))
theorem dX10_join_116 : decode cX10_join 116 = .ok (.lload_n 1, 1) := zk_of (zk_l (zk_r (zk_r (zk_r (zk_r zdX10_join_0)))))
theorem dX10_join_117 : decode cX10_join 117 = .ok (.lload_n 3, 1) := zk_of (zk_r (zk_r (zk_r (zk_r (zk_r zdX10_join_0)))))
theorem zdX10_join_118 : (and (and (and (and (and (zk cX10_join 118 (.ladd) 1) (zk cX10_join 119 (.lreturn) 1)) (and (zk cX10_join 120 (.lload_n 1) 1) (zk cX10_join 121 (.lload_n 3) 1))) (and (and (zk cX10_join 122 (.lsub) 1) (zk cX10_join 123 (.lreturn) 1)) (and (zk cX10_join 128 (.lload_n 3) 1) (zk cX10_join 129 (.lconst 0) 1)))) (and (and (and (zk cX10_join 130 (.lcmp) 1) (zk cX10_join 131 (.ifCond .ne 7) 3)) (and (zk cX10_join 138 (.lload_n 1) 1) (zk cX10_join 139 (.lload_n 3) 1))) (and (and (zk cX10_join 140 (.ldiv) 1) (zk cX10_join 141 (.lreturn) 1)) (and (zk cX10_join 134 (.lconst 0) 1) (zk cX10_join 135 (.goto 6) 3))))) (and (and (and (and (zk cX10_join 154 (.lload_n 1) 1) (zk cX10_join 155 (.lload_n 3) 1)) (and (zk cX10_join 156 (.lcmp) 1) (zk cX10_join 157 (.ifCond .ge 7) 3))) (and (and (zk cX10_join 164 (.lconst 0) 1) (zk cX10_join 165 (.lreturn) 1)) (and (zk cX10_join 160 (.lconst 1) 1) (zk cX10_join 161 (.goto 4) 3)))) (and (and (and (zk cX10_join 142 (.lload_n 1) 1) (zk cX10_join 143 (.lload_n 3) 1)) (and (zk cX10_join 144 (.lcmp) 1) (zk cX10_join 145 (.ifCond .ne 7) 3))) (and (and (zk cX10_join 152 (.lconst 0) 1) (zk cX10_join 153 (.lreturn) 1)) (and (zk cX10_join 148 (.lconst 1) 1) (zk cX10_join 149 (.goto 4) 3)))))) = true := by decide +kernel
theorem dX10_join_118 : decode cX10_join 118 = .ok (.ladd, 1) := zk_of (zk_l (zk_l (zk_l (zk_l (zk_l zdX10_join_118)))))
theorem dX10_join_119 : decode cX10_join 119 = .ok (.lreturn, 1) := zk_of (zk_r (zk_l (zk_l (zk_l (zk_l zdX10_join_118)))))
theorem dX10_join_120 : decode cX10_join 120 = .ok (.lload_n 1, 1) := zk_of (zk_l (zk_r (zk_l (zk_l (zk_l zdX10_join_118)))))
theorem dX10_join_121 : decode cX10_join 121 = .ok (.lload_n 3, 1) := zk_of (zk_r (zk_r (zk_l (zk_l (zk_l zdX10_join_118)))))
theorem dX10_join_122 : decode cX10_join 122 = .ok (.lsub, 1) := zk_of (zk_l (zk_l (zk_r (zk_l (zk_l zdX10_join_118)))))
theorem dX10_join_123 : decode cX10_join 123 = .ok (.lreturn, 1) := zk_of (zk_r (zk_l (zk_r (zk_l (zk_l zdX10_join_118)))))
theorem dX10_join_128 : decode cX10_join 128 = .ok (.lload_n 3, 1) := zk_of (zk_l (zk_r (zk_r (zk_l (zk_l zdX10_join_118)))))
theorem dX10_join_129 : decode cX10_join 129 = .ok (.lconst 0, 1) := zk_of (zk_r (zk_r (zk_r (zk_l (zk_l zdX10_join_118)))))
theorem dX10_join_130 : decode cX10_join 130 = .ok (.lcmp, 1) := zk_of (zk_l (zk_l (zk_l (zk_r (zk_l zdX10_join_118)))))
theorem dX10_join_131 : decode cX10_join 131 = .ok (.ifCond .ne 7, 3) := zk_of (zk_r (zk_l (zk_l (zk_r (zk_l zdX10_join_118)))))
theorem dX10_join_138 : decode cX10_join 138 = .ok (.lload_n 1, 1) := zk_of (zk_l (zk_r (zk_l (zk_r (zk_l zdX10_join_118)))))
theorem dX10_join_139 : decode cX10_join 139 = .ok (.lload_n 3, 1) := zk_of (zk_r (zk_r (zk_l (zk_r (zk_l zdX10_join_118)))))
theorem dX10_join_140 : decode cX10_join 140 = .ok (.ldiv, 1) := zk_of (zk_l (zk_l (zk_r (zk_r (zk_l zdX10_join_118)))))
theorem dX10_join_141 : decode cX10_join 141 = .ok (.lreturn, 1) := zk_of (zk_r (zk_l (zk_r (zk_r (zk_l zdX10_join_118)))))
theorem dX10_join_134 : decode cX10_join 134 = .ok (.lconst 0, 1) := zk_of (zk_l (zk_r (zk_r (zk_r (zk_l zdX10_join_118)))))
theorem dX10_join_135 : decode cX10_join 135 = .ok (.goto 6, 3) := zk_of (zk_r (zk_r (zk_r (zk_r (zk_l zdX10_join_118)))))
theorem dX10_join_154 : decode cX10_join 154 = .ok (.lload_n 1, 1) := zk_of (zk_l (zk_l (zk_l (zk_l (zk_r zdX10_join_118)))))
theorem dX10_join_155 : decode cX10_join 155 = .ok (.lload_n 3, 1) := zk_of (zk_r (zk_l (zk_l (zk_l (zk_r zdX10_join_118)))))
theorem dX10_join_156 : decode cX10_join 156 = .ok (.lcmp, 1) := zk_of (zk_l (zk_r (zk_l (zk_l (zk_r zdX10_join_118)))))
theorem dX10_join_157 : decode cX10_join 157 = .ok (.ifCond .ge 7, 3) := zk_of (zk_r (zk_r (zk_l (zk_l (zk_r zdX10_join_118)))))
theorem dX10_join_164 : decode cX10_join 164 = .ok (.lconst 0, 1) := zk_of (zk_l (zk_l (zk_r (zk_l (zk_r zdX10_join_118)))))
theorem dX10_join_165 : decode cX10_join 165 = .ok (.lreturn, 1) := zk_of (zk_r (zk_l (zk_r (zk_l (zk_r zdX10_join_118)))))
theorem dX10_join_160 : decode cX10_join 160 = .ok (.lconst 1, 1) := zk_of (zk_l (zk_r (zk_r (zk_l (zk_r zdX10_join_118)))))
theorem dX10_join_161 : decode cX10_join 161 = .ok (.goto 4, 3) := zk_of (zk_r (zk_r (zk_r (zk_l (zk_r zdX10_join_118)))))
theorem dX10_join_142 : decode cX10_join 142 = .ok (.lload_n 1, 1) := zk_of (zk_l (zk_l (zk_l (zk_r (zk_r zdX10_join_118)))))
theorem dX10_join_143 : decode cX10_join 143 = .ok (.lload_n 3, 1) := zk_of (zk_r (zk_l (zk_l (zk_r (zk_r zdX10_join_118)))))
theorem dX10_join_144 : decode cX10_join 144 = .ok (.lcmp, 1) := zk_of (zk_l (zk_r (zk_l (zk_r (zk_r zdX10_join_118)))))
theorem dX10_join_145 : decode cX10_join 145 = .ok (.ifCond .ne 7, 3) := zk_of (zk_r (zk_r (zk_l (zk_r (zk_r zdX10_join_118)))))
theorem dX10_join_152 : decode cX10_join 152 = .ok (.lconst 0, 1) := zk_of (zk_l (zk_l (zk_r (zk_r (zk_r zdX10_join_118)))))
theorem dX10_join_153 : decode cX10_join 153 = .ok (.lreturn, 1) := zk_of (zk_r (zk_l (zk_r (zk_r (zk_r zdX10_join_118)))))
theorem dX10_join_148 : decode cX10_join 148 = .ok (.lconst 1, 1) := zk_of (zk_l (zk_r (zk_r (zk_r (zk_r zdX10_join_118)))))
theorem dX10_join_149 : decode cX10_join 149 = .ok (.goto 4, 3) := zk_of (zk_r (zk_r (zk_r (zk_r (zk_r zdX10_join_118)))))
theorem zdX10_join_166 : (and (and (and (zk cX10_join 166 (.lload_n 1) 1) (zk cX10_join 167 (.lload_n 3) 1)) (and (zk cX10_join 168 (.lcmp) 1) (zk cX10_join 169 (.ifCond .le 7) 3))) (and (and (zk cX10_join 176 (.lconst 0) 1) (zk cX10_join 177 (.lreturn) 1)) (and (zk cX10_join 172 (.lconst 1) 1) (zk cX10_join 173 (.goto 4) 3)))) = true := by decide +kernel
theorem dX10_join_166 : decode cX10_join 166 = .ok (.lload_n 1, 1) := zk_of (zk_l (zk_l (zk_l zdX10_join_166)))
theorem dX10_join_167 : decode cX10_join 167 = .ok (.lload_n 3, 1) := zk_of (zk_r (zk_l (zk_l zdX10_join_166)))
theorem dX10_join_168 : decode cX10_join 168 = .ok (.lcmp, 1) := zk_of (zk_l (zk_r (zk_l zdX10_join_166)))
theorem dX10_join_169 : decode cX10_join 169 = .ok (.ifCond .le 7, 3) := zk_of (zk_r (zk_r (zk_l zdX10_join_166)))
theorem dX10_join_176 : decode cX10_join 176 = .ok (.lconst 0, 1) := zk_of (zk_l (zk_l (zk_r zdX10_join_166)))
theorem dX10_join_177 : decode cX10_join 177 = .ok (.lreturn, 1) := zk_of (zk_r (zk_l (zk_r zdX10_join_166)))
theorem dX10_join_172 : decode cX10_join 172 = .ok (.lconst 1, 1) := zk_of (zk_l (zk_r (zk_r zdX10_join_166)))
theorem dX10_join_173 : decode cX10_join 173 = .ok (.goto 4, 3) := zk_of (zk_r (zk_r (zk_r zdX10_join_166)))
/-- HissHorn$Text.join(IJJ)J -/
def rmX10_join : Room := { frames := 0, cells := 0, slots := 0, locals := 0 }
def fX10_join (x0 : Int32) (x1 : Int64) (x3 : Int64) : Option Int64 := (if x0 = 38 then (if (lg_cmp x1 0) = 0 then (some 0) else (if (lg_cmp x3 0) = 0 then (some 0) else (some 1))) else (if x0 = 39 then (if (lg_cmp x1 0) = 0 then (if (lg_cmp x3 0) = 0 then (some 0) else (some 1)) else (some 1)) else (if x0 = 40 then (if (lg_cmp x1 0) = 0 then (if (lg_cmp x3 0) = 0 then (some 0) else (some 1)) else (some 1)) else (if x0 = 41 then (if (lg_cmp x1 0) = 0 then (if (lg_cmp x3 0) = 0 then (some 0) else (some 1)) else (some 1)) else (if x0 = 42 then (some (x1 * x3)) else (if x0 = 43 then (some (x1 + x3)) else (if x0 = 44 then (if (lg_cmp x1 0) = 0 then (if (lg_cmp x3 0) = 0 then (some 0) else (some 1)) else (some 1)) else (if x0 = 45 then (some (x1 - x3)) else (if x0 = 46 then (if (lg_cmp x1 0) = 0 then (if (lg_cmp x3 0) = 0 then (some 0) else (some 1)) else (some 1)) else (if x0 = 47 then (if (lg_cmp x3 0) = 0 then (some 0) else (gd (nzL x3) (some (x1 / x3)))) else (if x0 = 48 then (if (lg_cmp x1 0) = 0 then (if (lg_cmp x3 0) = 0 then (some 0) else (some 1)) else (some 1)) else (if x0 = 49 then (if (lg_cmp x1 0) = 0 then (if (lg_cmp x3 0) = 0 then (some 0) else (some 1)) else (some 1)) else (if x0 = 50 then (if (lg_cmp x1 0) = 0 then (if (lg_cmp x3 0) = 0 then (some 0) else (some 1)) else (some 1)) else (if x0 = 51 then (if (lg_cmp x1 0) = 0 then (if (lg_cmp x3 0) = 0 then (some 0) else (some 1)) else (some 1)) else (if x0 = 52 then (if (lg_cmp x1 0) = 0 then (if (lg_cmp x3 0) = 0 then (some 0) else (some 1)) else (some 1)) else (if x0 = 53 then (if (lg_cmp x1 0) = 0 then (if (lg_cmp x3 0) = 0 then (some 0) else (some 1)) else (some 1)) else (if x0 = 54 then (if (lg_cmp x1 0) = 0 then (if (lg_cmp x3 0) = 0 then (some 0) else (some 1)) else (some 1)) else (if x0 = 55 then (if (lg_cmp x1 0) = 0 then (if (lg_cmp x3 0) = 0 then (some 0) else (some 1)) else (some 1)) else (if x0 = 56 then (if (lg_cmp x1 0) = 0 then (if (lg_cmp x3 0) = 0 then (some 0) else (some 1)) else (some 1)) else (if x0 = 57 then (if (lg_cmp x1 0) = 0 then (if (lg_cmp x3 0) = 0 then (some 0) else (some 1)) else (some 1)) else (if x0 = 58 then (if (lg_cmp x1 0) = 0 then (if (lg_cmp x3 0) = 0 then (some 0) else (some 1)) else (some 1)) else (if x0 = 59 then (if (lg_cmp x1 0) = 0 then (if (lg_cmp x3 0) = 0 then (some 0) else (some 1)) else (some 1)) else (if x0 = 60 then (if 0 ≤ (lg_cmp x1 x3) then (some 0) else (some 1)) else (if x0 = 61 then (if (lg_cmp x1 x3) = 0 then (some 1) else (some 0)) else (if x0 = 62 then (if (lg_cmp x1 x3) ≤ 0 then (some 0) else (some 1)) else (if (lg_cmp x1 0) = 0 then (if (lg_cmp x3 0) = 0 then (some 0) else (some 1)) else (some 1)))))))))))))))))))))))))))
set_option maxHeartbeats 4000000 in
set_option maxRecDepth 100000 in
theorem wX10_join {p : Program} {l : Launch} {e : Env} {s : State} {m : MethodId} {args : Array Value} {below : List Frame} {meth : Method} {c : Code} {D : va_G} {cy : Nat → ClassId} {st : Nat → Nat} (C : Cx RX10 cX10_join 5 (some .long) wsX10_join p s m args meth c) (hK : Ky D [(cy 0, .int), (cy 1, .long), (cy 2, .boolean), (cy 3, .byte), (cy 4, .object "HissHorn$Text")] st s) (x0 : Int32) (x1 : Int64) (x3 : Int64) {r : Int64} {H : Heap} {locs : List Loc} {ls : Array Slot} (h : fX10_join x0 x1 x3 = some r) (hP : va_P D vwCl (V0 u00) H) (hS : va_S (Ax (A0) s.heap.size) s.heap H locs) (hl : lv_has ls 5 [(0, .int x0), (1, .long x1), (3, .long x3)]) : W p l e rmX10_join s m args below meth c H locs 0 0 (MQ below (Ql D (V0) (A0) s.heap.size r u00) args s 0 0 (Ax (A0) s.heap.size)) (F0 m 0 ls []) := by
  unfold fX10_join at h
  refine lv_iload_n C.1 C.2.1 dX10_join_0 rfl (lv_at hl 0 rfl) ?_
  by_cases c1_0 : x0 = 38
  · rw [if_pos c1_0] at h
    rw [c1_0]
    refine lv_tableIn (off := 177) (tgt := 178) C.1 C.2.1 dX10_join_1 (by decide) (by decide) (by decide) (by decide) ?_
    refine lv_lload_n C.1 C.2.1 dX10_join_178 rfl (lv_at hl 1 rfl) ?_
    refine lv_lconst (v := 0) C.1 C.2.1 dX10_join_179 (by decide) ?_
    refine W.lcmp C.1 C.2.1 dX10_join_180 ?_
    refine lv_if_eq (tgt := 194) C.1 C.2.1 dX10_join_181 (by decide) (fun c181 => ?_) (fun c181 => ?_)
    · rw [if_pos c181] at h
      refine lv_lconst (v := 0) C.1 C.2.1 dX10_join_194 (by decide) ?_
      cases h
      exact rt_l C hP hS dX10_join_195
    · rw [if_neg c181] at h
      refine lv_lload_n C.1 C.2.1 dX10_join_184 rfl (lv_at hl 2 rfl) ?_
      refine lv_lconst (v := 0) C.1 C.2.1 dX10_join_185 (by decide) ?_
      refine W.lcmp C.1 C.2.1 dX10_join_186 ?_
      refine lv_if_eq (tgt := 194) C.1 C.2.1 dX10_join_187 (by decide) (fun c187 => ?_) (fun c187 => ?_)
      · rw [if_pos c187] at h
        refine lv_lconst (v := 0) C.1 C.2.1 dX10_join_194 (by decide) ?_
        cases h
        exact rt_l C hP hS dX10_join_195
      · rw [if_neg c187] at h
        refine lv_lconst (v := 1) C.1 C.2.1 dX10_join_190 (by decide) ?_
        refine lv_goto (tgt := 195) C.1 C.2.1 dX10_join_191 (by decide) ?_
        cases h
        exact rt_l C hP hS dX10_join_195
  · rw [if_neg c1_0] at h
    by_cases c1_1 : x0 = 39
    · rw [if_pos c1_1] at h
      rw [c1_1]
      refine lv_tableIn (off := 195) (tgt := 196) C.1 C.2.1 dX10_join_1 (by decide) (by decide) (by decide) (by decide) ?_
      refine lv_lload_n C.1 C.2.1 dX10_join_196 rfl (lv_at hl 1 rfl) ?_
      refine lv_lconst (v := 0) C.1 C.2.1 dX10_join_197 (by decide) ?_
      refine W.lcmp C.1 C.2.1 dX10_join_198 ?_
      refine lv_if_ne (tgt := 208) C.1 C.2.1 dX10_join_199 (by decide) (fun c199 => ?_) (fun c199 => ?_)
      · rw [if_neg c199] at h
        refine lv_lconst (v := 1) C.1 C.2.1 dX10_join_208 (by decide) ?_
        refine lv_goto (tgt := 213) C.1 C.2.1 dX10_join_209 (by decide) ?_
        cases h
        exact rt_l C hP hS dX10_join_213
      · rw [if_pos c199] at h
        refine lv_lload_n C.1 C.2.1 dX10_join_202 rfl (lv_at hl 2 rfl) ?_
        refine lv_lconst (v := 0) C.1 C.2.1 dX10_join_203 (by decide) ?_
        refine W.lcmp C.1 C.2.1 dX10_join_204 ?_
        refine lv_if_eq (tgt := 212) C.1 C.2.1 dX10_join_205 (by decide) (fun c205 => ?_) (fun c205 => ?_)
        · rw [if_pos c205] at h
          refine lv_lconst (v := 0) C.1 C.2.1 dX10_join_212 (by decide) ?_
          cases h
          exact rt_l C hP hS dX10_join_213
        · rw [if_neg c205] at h
          refine lv_lconst (v := 1) C.1 C.2.1 dX10_join_208 (by decide) ?_
          refine lv_goto (tgt := 213) C.1 C.2.1 dX10_join_209 (by decide) ?_
          cases h
          exact rt_l C hP hS dX10_join_213
    · rw [if_neg c1_1] at h
      by_cases c1_2 : x0 = 40
      · rw [if_pos c1_2] at h
        rw [c1_2]
        refine lv_tableIn (off := 195) (tgt := 196) C.1 C.2.1 dX10_join_1 (by decide) (by decide) (by decide) (by decide) ?_
        refine lv_lload_n C.1 C.2.1 dX10_join_196 rfl (lv_at hl 1 rfl) ?_
        refine lv_lconst (v := 0) C.1 C.2.1 dX10_join_197 (by decide) ?_
        refine W.lcmp C.1 C.2.1 dX10_join_198 ?_
        refine lv_if_ne (tgt := 208) C.1 C.2.1 dX10_join_199 (by decide) (fun c199 => ?_) (fun c199 => ?_)
        · rw [if_neg c199] at h
          refine lv_lconst (v := 1) C.1 C.2.1 dX10_join_208 (by decide) ?_
          refine lv_goto (tgt := 213) C.1 C.2.1 dX10_join_209 (by decide) ?_
          cases h
          exact rt_l C hP hS dX10_join_213
        · rw [if_pos c199] at h
          refine lv_lload_n C.1 C.2.1 dX10_join_202 rfl (lv_at hl 2 rfl) ?_
          refine lv_lconst (v := 0) C.1 C.2.1 dX10_join_203 (by decide) ?_
          refine W.lcmp C.1 C.2.1 dX10_join_204 ?_
          refine lv_if_eq (tgt := 212) C.1 C.2.1 dX10_join_205 (by decide) (fun c205 => ?_) (fun c205 => ?_)
          · rw [if_pos c205] at h
            refine lv_lconst (v := 0) C.1 C.2.1 dX10_join_212 (by decide) ?_
            cases h
            exact rt_l C hP hS dX10_join_213
          · rw [if_neg c205] at h
            refine lv_lconst (v := 1) C.1 C.2.1 dX10_join_208 (by decide) ?_
            refine lv_goto (tgt := 213) C.1 C.2.1 dX10_join_209 (by decide) ?_
            cases h
            exact rt_l C hP hS dX10_join_213
      · rw [if_neg c1_2] at h
        by_cases c1_3 : x0 = 41
        · rw [if_pos c1_3] at h
          rw [c1_3]
          refine lv_tableIn (off := 195) (tgt := 196) C.1 C.2.1 dX10_join_1 (by decide) (by decide) (by decide) (by decide) ?_
          refine lv_lload_n C.1 C.2.1 dX10_join_196 rfl (lv_at hl 1 rfl) ?_
          refine lv_lconst (v := 0) C.1 C.2.1 dX10_join_197 (by decide) ?_
          refine W.lcmp C.1 C.2.1 dX10_join_198 ?_
          refine lv_if_ne (tgt := 208) C.1 C.2.1 dX10_join_199 (by decide) (fun c199 => ?_) (fun c199 => ?_)
          · rw [if_neg c199] at h
            refine lv_lconst (v := 1) C.1 C.2.1 dX10_join_208 (by decide) ?_
            refine lv_goto (tgt := 213) C.1 C.2.1 dX10_join_209 (by decide) ?_
            cases h
            exact rt_l C hP hS dX10_join_213
          · rw [if_pos c199] at h
            refine lv_lload_n C.1 C.2.1 dX10_join_202 rfl (lv_at hl 2 rfl) ?_
            refine lv_lconst (v := 0) C.1 C.2.1 dX10_join_203 (by decide) ?_
            refine W.lcmp C.1 C.2.1 dX10_join_204 ?_
            refine lv_if_eq (tgt := 212) C.1 C.2.1 dX10_join_205 (by decide) (fun c205 => ?_) (fun c205 => ?_)
            · rw [if_pos c205] at h
              refine lv_lconst (v := 0) C.1 C.2.1 dX10_join_212 (by decide) ?_
              cases h
              exact rt_l C hP hS dX10_join_213
            · rw [if_neg c205] at h
              refine lv_lconst (v := 1) C.1 C.2.1 dX10_join_208 (by decide) ?_
              refine lv_goto (tgt := 213) C.1 C.2.1 dX10_join_209 (by decide) ?_
              cases h
              exact rt_l C hP hS dX10_join_213
        · rw [if_neg c1_3] at h
          by_cases c1_4 : x0 = 42
          · rw [if_pos c1_4] at h
            rw [c1_4]
            refine lv_tableIn (off := 123) (tgt := 124) C.1 C.2.1 dX10_join_1 (by decide) (by decide) (by decide) (by decide) ?_
            refine lv_lload_n C.1 C.2.1 dX10_join_124 rfl (lv_at hl 1 rfl) ?_
            refine lv_lload_n C.1 C.2.1 dX10_join_125 rfl (lv_at hl 2 rfl) ?_
            refine lv_lmul C.1 C.2.1 dX10_join_126 ?_
            cases h
            exact rt_l C hP hS dX10_join_127
          · rw [if_neg c1_4] at h
            by_cases c1_5 : x0 = 43
            · rw [if_pos c1_5] at h
              rw [c1_5]
              refine lv_tableIn (off := 115) (tgt := 116) C.1 C.2.1 dX10_join_1 (by decide) (by decide) (by decide) (by decide) ?_
              refine lv_lload_n C.1 C.2.1 dX10_join_116 rfl (lv_at hl 1 rfl) ?_
              refine lv_lload_n C.1 C.2.1 dX10_join_117 rfl (lv_at hl 2 rfl) ?_
              refine lv_ladd C.1 C.2.1 dX10_join_118 ?_
              cases h
              exact rt_l C hP hS dX10_join_119
            · rw [if_neg c1_5] at h
              by_cases c1_6 : x0 = 44
              · rw [if_pos c1_6] at h
                rw [c1_6]
                refine lv_tableIn (off := 195) (tgt := 196) C.1 C.2.1 dX10_join_1 (by decide) (by decide) (by decide) (by decide) ?_
                refine lv_lload_n C.1 C.2.1 dX10_join_196 rfl (lv_at hl 1 rfl) ?_
                refine lv_lconst (v := 0) C.1 C.2.1 dX10_join_197 (by decide) ?_
                refine W.lcmp C.1 C.2.1 dX10_join_198 ?_
                refine lv_if_ne (tgt := 208) C.1 C.2.1 dX10_join_199 (by decide) (fun c199 => ?_) (fun c199 => ?_)
                · rw [if_neg c199] at h
                  refine lv_lconst (v := 1) C.1 C.2.1 dX10_join_208 (by decide) ?_
                  refine lv_goto (tgt := 213) C.1 C.2.1 dX10_join_209 (by decide) ?_
                  cases h
                  exact rt_l C hP hS dX10_join_213
                · rw [if_pos c199] at h
                  refine lv_lload_n C.1 C.2.1 dX10_join_202 rfl (lv_at hl 2 rfl) ?_
                  refine lv_lconst (v := 0) C.1 C.2.1 dX10_join_203 (by decide) ?_
                  refine W.lcmp C.1 C.2.1 dX10_join_204 ?_
                  refine lv_if_eq (tgt := 212) C.1 C.2.1 dX10_join_205 (by decide) (fun c205 => ?_) (fun c205 => ?_)
                  · rw [if_pos c205] at h
                    refine lv_lconst (v := 0) C.1 C.2.1 dX10_join_212 (by decide) ?_
                    cases h
                    exact rt_l C hP hS dX10_join_213
                  · rw [if_neg c205] at h
                    refine lv_lconst (v := 1) C.1 C.2.1 dX10_join_208 (by decide) ?_
                    refine lv_goto (tgt := 213) C.1 C.2.1 dX10_join_209 (by decide) ?_
                    cases h
                    exact rt_l C hP hS dX10_join_213
              · rw [if_neg c1_6] at h
                by_cases c1_7 : x0 = 45
                · rw [if_pos c1_7] at h
                  rw [c1_7]
                  refine lv_tableIn (off := 119) (tgt := 120) C.1 C.2.1 dX10_join_1 (by decide) (by decide) (by decide) (by decide) ?_
                  refine lv_lload_n C.1 C.2.1 dX10_join_120 rfl (lv_at hl 1 rfl) ?_
                  refine lv_lload_n C.1 C.2.1 dX10_join_121 rfl (lv_at hl 2 rfl) ?_
                  refine lv_lsub C.1 C.2.1 dX10_join_122 ?_
                  cases h
                  exact rt_l C hP hS dX10_join_123
                · rw [if_neg c1_7] at h
                  by_cases c1_8 : x0 = 46
                  · rw [if_pos c1_8] at h
                    rw [c1_8]
                    refine lv_tableIn (off := 195) (tgt := 196) C.1 C.2.1 dX10_join_1 (by decide) (by decide) (by decide) (by decide) ?_
                    refine lv_lload_n C.1 C.2.1 dX10_join_196 rfl (lv_at hl 1 rfl) ?_
                    refine lv_lconst (v := 0) C.1 C.2.1 dX10_join_197 (by decide) ?_
                    refine W.lcmp C.1 C.2.1 dX10_join_198 ?_
                    refine lv_if_ne (tgt := 208) C.1 C.2.1 dX10_join_199 (by decide) (fun c199 => ?_) (fun c199 => ?_)
                    · rw [if_neg c199] at h
                      refine lv_lconst (v := 1) C.1 C.2.1 dX10_join_208 (by decide) ?_
                      refine lv_goto (tgt := 213) C.1 C.2.1 dX10_join_209 (by decide) ?_
                      cases h
                      exact rt_l C hP hS dX10_join_213
                    · rw [if_pos c199] at h
                      refine lv_lload_n C.1 C.2.1 dX10_join_202 rfl (lv_at hl 2 rfl) ?_
                      refine lv_lconst (v := 0) C.1 C.2.1 dX10_join_203 (by decide) ?_
                      refine W.lcmp C.1 C.2.1 dX10_join_204 ?_
                      refine lv_if_eq (tgt := 212) C.1 C.2.1 dX10_join_205 (by decide) (fun c205 => ?_) (fun c205 => ?_)
                      · rw [if_pos c205] at h
                        refine lv_lconst (v := 0) C.1 C.2.1 dX10_join_212 (by decide) ?_
                        cases h
                        exact rt_l C hP hS dX10_join_213
                      · rw [if_neg c205] at h
                        refine lv_lconst (v := 1) C.1 C.2.1 dX10_join_208 (by decide) ?_
                        refine lv_goto (tgt := 213) C.1 C.2.1 dX10_join_209 (by decide) ?_
                        cases h
                        exact rt_l C hP hS dX10_join_213
                  · rw [if_neg c1_8] at h
                    by_cases c1_9 : x0 = 47
                    · rw [if_pos c1_9] at h
                      rw [c1_9]
                      refine lv_tableIn (off := 127) (tgt := 128) C.1 C.2.1 dX10_join_1 (by decide) (by decide) (by decide) (by decide) ?_
                      refine lv_lload_n C.1 C.2.1 dX10_join_128 rfl (lv_at hl 2 rfl) ?_
                      refine lv_lconst (v := 0) C.1 C.2.1 dX10_join_129 (by decide) ?_
                      refine W.lcmp C.1 C.2.1 dX10_join_130 ?_
                      refine lv_if_ne (tgt := 138) C.1 C.2.1 dX10_join_131 (by decide) (fun c131 => ?_) (fun c131 => ?_)
                      · rw [if_neg c131] at h
                        refine lv_lload_n C.1 C.2.1 dX10_join_138 rfl (lv_at hl 1 rfl) ?_
                        refine lv_lload_n C.1 C.2.1 dX10_join_139 rfl (lv_at hl 2 rfl) ?_
                        obtain ⟨hg1, h⟩ := gd_some h
                        refine lv_ldiv C.1 C.2.1 dX10_join_140 (nzL_n hg1) ?_
                        cases h
                        exact rt_l C hP hS dX10_join_141
                      · rw [if_pos c131] at h
                        refine lv_lconst (v := 0) C.1 C.2.1 dX10_join_134 (by decide) ?_
                        refine lv_goto (tgt := 141) C.1 C.2.1 dX10_join_135 (by decide) ?_
                        cases h
                        exact rt_l C hP hS dX10_join_141
                    · rw [if_neg c1_9] at h
                      by_cases c1_10 : x0 = 48
                      · rw [if_pos c1_10] at h
                        rw [c1_10]
                        refine lv_tableIn (off := 195) (tgt := 196) C.1 C.2.1 dX10_join_1 (by decide) (by decide) (by decide) (by decide) ?_
                        refine lv_lload_n C.1 C.2.1 dX10_join_196 rfl (lv_at hl 1 rfl) ?_
                        refine lv_lconst (v := 0) C.1 C.2.1 dX10_join_197 (by decide) ?_
                        refine W.lcmp C.1 C.2.1 dX10_join_198 ?_
                        refine lv_if_ne (tgt := 208) C.1 C.2.1 dX10_join_199 (by decide) (fun c199 => ?_) (fun c199 => ?_)
                        · rw [if_neg c199] at h
                          refine lv_lconst (v := 1) C.1 C.2.1 dX10_join_208 (by decide) ?_
                          refine lv_goto (tgt := 213) C.1 C.2.1 dX10_join_209 (by decide) ?_
                          cases h
                          exact rt_l C hP hS dX10_join_213
                        · rw [if_pos c199] at h
                          refine lv_lload_n C.1 C.2.1 dX10_join_202 rfl (lv_at hl 2 rfl) ?_
                          refine lv_lconst (v := 0) C.1 C.2.1 dX10_join_203 (by decide) ?_
                          refine W.lcmp C.1 C.2.1 dX10_join_204 ?_
                          refine lv_if_eq (tgt := 212) C.1 C.2.1 dX10_join_205 (by decide) (fun c205 => ?_) (fun c205 => ?_)
                          · rw [if_pos c205] at h
                            refine lv_lconst (v := 0) C.1 C.2.1 dX10_join_212 (by decide) ?_
                            cases h
                            exact rt_l C hP hS dX10_join_213
                          · rw [if_neg c205] at h
                            refine lv_lconst (v := 1) C.1 C.2.1 dX10_join_208 (by decide) ?_
                            refine lv_goto (tgt := 213) C.1 C.2.1 dX10_join_209 (by decide) ?_
                            cases h
                            exact rt_l C hP hS dX10_join_213
                      · rw [if_neg c1_10] at h
                        by_cases c1_11 : x0 = 49
                        · rw [if_pos c1_11] at h
                          rw [c1_11]
                          refine lv_tableIn (off := 195) (tgt := 196) C.1 C.2.1 dX10_join_1 (by decide) (by decide) (by decide) (by decide) ?_
                          refine lv_lload_n C.1 C.2.1 dX10_join_196 rfl (lv_at hl 1 rfl) ?_
                          refine lv_lconst (v := 0) C.1 C.2.1 dX10_join_197 (by decide) ?_
                          refine W.lcmp C.1 C.2.1 dX10_join_198 ?_
                          refine lv_if_ne (tgt := 208) C.1 C.2.1 dX10_join_199 (by decide) (fun c199 => ?_) (fun c199 => ?_)
                          · rw [if_neg c199] at h
                            refine lv_lconst (v := 1) C.1 C.2.1 dX10_join_208 (by decide) ?_
                            refine lv_goto (tgt := 213) C.1 C.2.1 dX10_join_209 (by decide) ?_
                            cases h
                            exact rt_l C hP hS dX10_join_213
                          · rw [if_pos c199] at h
                            refine lv_lload_n C.1 C.2.1 dX10_join_202 rfl (lv_at hl 2 rfl) ?_
                            refine lv_lconst (v := 0) C.1 C.2.1 dX10_join_203 (by decide) ?_
                            refine W.lcmp C.1 C.2.1 dX10_join_204 ?_
                            refine lv_if_eq (tgt := 212) C.1 C.2.1 dX10_join_205 (by decide) (fun c205 => ?_) (fun c205 => ?_)
                            · rw [if_pos c205] at h
                              refine lv_lconst (v := 0) C.1 C.2.1 dX10_join_212 (by decide) ?_
                              cases h
                              exact rt_l C hP hS dX10_join_213
                            · rw [if_neg c205] at h
                              refine lv_lconst (v := 1) C.1 C.2.1 dX10_join_208 (by decide) ?_
                              refine lv_goto (tgt := 213) C.1 C.2.1 dX10_join_209 (by decide) ?_
                              cases h
                              exact rt_l C hP hS dX10_join_213
                        · rw [if_neg c1_11] at h
                          by_cases c1_12 : x0 = 50
                          · rw [if_pos c1_12] at h
                            rw [c1_12]
                            refine lv_tableIn (off := 195) (tgt := 196) C.1 C.2.1 dX10_join_1 (by decide) (by decide) (by decide) (by decide) ?_
                            refine lv_lload_n C.1 C.2.1 dX10_join_196 rfl (lv_at hl 1 rfl) ?_
                            refine lv_lconst (v := 0) C.1 C.2.1 dX10_join_197 (by decide) ?_
                            refine W.lcmp C.1 C.2.1 dX10_join_198 ?_
                            refine lv_if_ne (tgt := 208) C.1 C.2.1 dX10_join_199 (by decide) (fun c199 => ?_) (fun c199 => ?_)
                            · rw [if_neg c199] at h
                              refine lv_lconst (v := 1) C.1 C.2.1 dX10_join_208 (by decide) ?_
                              refine lv_goto (tgt := 213) C.1 C.2.1 dX10_join_209 (by decide) ?_
                              cases h
                              exact rt_l C hP hS dX10_join_213
                            · rw [if_pos c199] at h
                              refine lv_lload_n C.1 C.2.1 dX10_join_202 rfl (lv_at hl 2 rfl) ?_
                              refine lv_lconst (v := 0) C.1 C.2.1 dX10_join_203 (by decide) ?_
                              refine W.lcmp C.1 C.2.1 dX10_join_204 ?_
                              refine lv_if_eq (tgt := 212) C.1 C.2.1 dX10_join_205 (by decide) (fun c205 => ?_) (fun c205 => ?_)
                              · rw [if_pos c205] at h
                                refine lv_lconst (v := 0) C.1 C.2.1 dX10_join_212 (by decide) ?_
                                cases h
                                exact rt_l C hP hS dX10_join_213
                              · rw [if_neg c205] at h
                                refine lv_lconst (v := 1) C.1 C.2.1 dX10_join_208 (by decide) ?_
                                refine lv_goto (tgt := 213) C.1 C.2.1 dX10_join_209 (by decide) ?_
                                cases h
                                exact rt_l C hP hS dX10_join_213
                          · rw [if_neg c1_12] at h
                            by_cases c1_13 : x0 = 51
                            · rw [if_pos c1_13] at h
                              rw [c1_13]
                              refine lv_tableIn (off := 195) (tgt := 196) C.1 C.2.1 dX10_join_1 (by decide) (by decide) (by decide) (by decide) ?_
                              refine lv_lload_n C.1 C.2.1 dX10_join_196 rfl (lv_at hl 1 rfl) ?_
                              refine lv_lconst (v := 0) C.1 C.2.1 dX10_join_197 (by decide) ?_
                              refine W.lcmp C.1 C.2.1 dX10_join_198 ?_
                              refine lv_if_ne (tgt := 208) C.1 C.2.1 dX10_join_199 (by decide) (fun c199 => ?_) (fun c199 => ?_)
                              · rw [if_neg c199] at h
                                refine lv_lconst (v := 1) C.1 C.2.1 dX10_join_208 (by decide) ?_
                                refine lv_goto (tgt := 213) C.1 C.2.1 dX10_join_209 (by decide) ?_
                                cases h
                                exact rt_l C hP hS dX10_join_213
                              · rw [if_pos c199] at h
                                refine lv_lload_n C.1 C.2.1 dX10_join_202 rfl (lv_at hl 2 rfl) ?_
                                refine lv_lconst (v := 0) C.1 C.2.1 dX10_join_203 (by decide) ?_
                                refine W.lcmp C.1 C.2.1 dX10_join_204 ?_
                                refine lv_if_eq (tgt := 212) C.1 C.2.1 dX10_join_205 (by decide) (fun c205 => ?_) (fun c205 => ?_)
                                · rw [if_pos c205] at h
                                  refine lv_lconst (v := 0) C.1 C.2.1 dX10_join_212 (by decide) ?_
                                  cases h
                                  exact rt_l C hP hS dX10_join_213
                                · rw [if_neg c205] at h
                                  refine lv_lconst (v := 1) C.1 C.2.1 dX10_join_208 (by decide) ?_
                                  refine lv_goto (tgt := 213) C.1 C.2.1 dX10_join_209 (by decide) ?_
                                  cases h
                                  exact rt_l C hP hS dX10_join_213
                            · rw [if_neg c1_13] at h
                              by_cases c1_14 : x0 = 52
                              · rw [if_pos c1_14] at h
                                rw [c1_14]
                                refine lv_tableIn (off := 195) (tgt := 196) C.1 C.2.1 dX10_join_1 (by decide) (by decide) (by decide) (by decide) ?_
                                refine lv_lload_n C.1 C.2.1 dX10_join_196 rfl (lv_at hl 1 rfl) ?_
                                refine lv_lconst (v := 0) C.1 C.2.1 dX10_join_197 (by decide) ?_
                                refine W.lcmp C.1 C.2.1 dX10_join_198 ?_
                                refine lv_if_ne (tgt := 208) C.1 C.2.1 dX10_join_199 (by decide) (fun c199 => ?_) (fun c199 => ?_)
                                · rw [if_neg c199] at h
                                  refine lv_lconst (v := 1) C.1 C.2.1 dX10_join_208 (by decide) ?_
                                  refine lv_goto (tgt := 213) C.1 C.2.1 dX10_join_209 (by decide) ?_
                                  cases h
                                  exact rt_l C hP hS dX10_join_213
                                · rw [if_pos c199] at h
                                  refine lv_lload_n C.1 C.2.1 dX10_join_202 rfl (lv_at hl 2 rfl) ?_
                                  refine lv_lconst (v := 0) C.1 C.2.1 dX10_join_203 (by decide) ?_
                                  refine W.lcmp C.1 C.2.1 dX10_join_204 ?_
                                  refine lv_if_eq (tgt := 212) C.1 C.2.1 dX10_join_205 (by decide) (fun c205 => ?_) (fun c205 => ?_)
                                  · rw [if_pos c205] at h
                                    refine lv_lconst (v := 0) C.1 C.2.1 dX10_join_212 (by decide) ?_
                                    cases h
                                    exact rt_l C hP hS dX10_join_213
                                  · rw [if_neg c205] at h
                                    refine lv_lconst (v := 1) C.1 C.2.1 dX10_join_208 (by decide) ?_
                                    refine lv_goto (tgt := 213) C.1 C.2.1 dX10_join_209 (by decide) ?_
                                    cases h
                                    exact rt_l C hP hS dX10_join_213
                              · rw [if_neg c1_14] at h
                                by_cases c1_15 : x0 = 53
                                · rw [if_pos c1_15] at h
                                  rw [c1_15]
                                  refine lv_tableIn (off := 195) (tgt := 196) C.1 C.2.1 dX10_join_1 (by decide) (by decide) (by decide) (by decide) ?_
                                  refine lv_lload_n C.1 C.2.1 dX10_join_196 rfl (lv_at hl 1 rfl) ?_
                                  refine lv_lconst (v := 0) C.1 C.2.1 dX10_join_197 (by decide) ?_
                                  refine W.lcmp C.1 C.2.1 dX10_join_198 ?_
                                  refine lv_if_ne (tgt := 208) C.1 C.2.1 dX10_join_199 (by decide) (fun c199 => ?_) (fun c199 => ?_)
                                  · rw [if_neg c199] at h
                                    refine lv_lconst (v := 1) C.1 C.2.1 dX10_join_208 (by decide) ?_
                                    refine lv_goto (tgt := 213) C.1 C.2.1 dX10_join_209 (by decide) ?_
                                    cases h
                                    exact rt_l C hP hS dX10_join_213
                                  · rw [if_pos c199] at h
                                    refine lv_lload_n C.1 C.2.1 dX10_join_202 rfl (lv_at hl 2 rfl) ?_
                                    refine lv_lconst (v := 0) C.1 C.2.1 dX10_join_203 (by decide) ?_
                                    refine W.lcmp C.1 C.2.1 dX10_join_204 ?_
                                    refine lv_if_eq (tgt := 212) C.1 C.2.1 dX10_join_205 (by decide) (fun c205 => ?_) (fun c205 => ?_)
                                    · rw [if_pos c205] at h
                                      refine lv_lconst (v := 0) C.1 C.2.1 dX10_join_212 (by decide) ?_
                                      cases h
                                      exact rt_l C hP hS dX10_join_213
                                    · rw [if_neg c205] at h
                                      refine lv_lconst (v := 1) C.1 C.2.1 dX10_join_208 (by decide) ?_
                                      refine lv_goto (tgt := 213) C.1 C.2.1 dX10_join_209 (by decide) ?_
                                      cases h
                                      exact rt_l C hP hS dX10_join_213
                                · rw [if_neg c1_15] at h
                                  by_cases c1_16 : x0 = 54
                                  · rw [if_pos c1_16] at h
                                    rw [c1_16]
                                    refine lv_tableIn (off := 195) (tgt := 196) C.1 C.2.1 dX10_join_1 (by decide) (by decide) (by decide) (by decide) ?_
                                    refine lv_lload_n C.1 C.2.1 dX10_join_196 rfl (lv_at hl 1 rfl) ?_
                                    refine lv_lconst (v := 0) C.1 C.2.1 dX10_join_197 (by decide) ?_
                                    refine W.lcmp C.1 C.2.1 dX10_join_198 ?_
                                    refine lv_if_ne (tgt := 208) C.1 C.2.1 dX10_join_199 (by decide) (fun c199 => ?_) (fun c199 => ?_)
                                    · rw [if_neg c199] at h
                                      refine lv_lconst (v := 1) C.1 C.2.1 dX10_join_208 (by decide) ?_
                                      refine lv_goto (tgt := 213) C.1 C.2.1 dX10_join_209 (by decide) ?_
                                      cases h
                                      exact rt_l C hP hS dX10_join_213
                                    · rw [if_pos c199] at h
                                      refine lv_lload_n C.1 C.2.1 dX10_join_202 rfl (lv_at hl 2 rfl) ?_
                                      refine lv_lconst (v := 0) C.1 C.2.1 dX10_join_203 (by decide) ?_
                                      refine W.lcmp C.1 C.2.1 dX10_join_204 ?_
                                      refine lv_if_eq (tgt := 212) C.1 C.2.1 dX10_join_205 (by decide) (fun c205 => ?_) (fun c205 => ?_)
                                      · rw [if_pos c205] at h
                                        refine lv_lconst (v := 0) C.1 C.2.1 dX10_join_212 (by decide) ?_
                                        cases h
                                        exact rt_l C hP hS dX10_join_213
                                      · rw [if_neg c205] at h
                                        refine lv_lconst (v := 1) C.1 C.2.1 dX10_join_208 (by decide) ?_
                                        refine lv_goto (tgt := 213) C.1 C.2.1 dX10_join_209 (by decide) ?_
                                        cases h
                                        exact rt_l C hP hS dX10_join_213
                                  · rw [if_neg c1_16] at h
                                    by_cases c1_17 : x0 = 55
                                    · rw [if_pos c1_17] at h
                                      rw [c1_17]
                                      refine lv_tableIn (off := 195) (tgt := 196) C.1 C.2.1 dX10_join_1 (by decide) (by decide) (by decide) (by decide) ?_
                                      refine lv_lload_n C.1 C.2.1 dX10_join_196 rfl (lv_at hl 1 rfl) ?_
                                      refine lv_lconst (v := 0) C.1 C.2.1 dX10_join_197 (by decide) ?_
                                      refine W.lcmp C.1 C.2.1 dX10_join_198 ?_
                                      refine lv_if_ne (tgt := 208) C.1 C.2.1 dX10_join_199 (by decide) (fun c199 => ?_) (fun c199 => ?_)
                                      · rw [if_neg c199] at h
                                        refine lv_lconst (v := 1) C.1 C.2.1 dX10_join_208 (by decide) ?_
                                        refine lv_goto (tgt := 213) C.1 C.2.1 dX10_join_209 (by decide) ?_
                                        cases h
                                        exact rt_l C hP hS dX10_join_213
                                      · rw [if_pos c199] at h
                                        refine lv_lload_n C.1 C.2.1 dX10_join_202 rfl (lv_at hl 2 rfl) ?_
                                        refine lv_lconst (v := 0) C.1 C.2.1 dX10_join_203 (by decide) ?_
                                        refine W.lcmp C.1 C.2.1 dX10_join_204 ?_
                                        refine lv_if_eq (tgt := 212) C.1 C.2.1 dX10_join_205 (by decide) (fun c205 => ?_) (fun c205 => ?_)
                                        · rw [if_pos c205] at h
                                          refine lv_lconst (v := 0) C.1 C.2.1 dX10_join_212 (by decide) ?_
                                          cases h
                                          exact rt_l C hP hS dX10_join_213
                                        · rw [if_neg c205] at h
                                          refine lv_lconst (v := 1) C.1 C.2.1 dX10_join_208 (by decide) ?_
                                          refine lv_goto (tgt := 213) C.1 C.2.1 dX10_join_209 (by decide) ?_
                                          cases h
                                          exact rt_l C hP hS dX10_join_213
                                    · rw [if_neg c1_17] at h
                                      by_cases c1_18 : x0 = 56
                                      · rw [if_pos c1_18] at h
                                        rw [c1_18]
                                        refine lv_tableIn (off := 195) (tgt := 196) C.1 C.2.1 dX10_join_1 (by decide) (by decide) (by decide) (by decide) ?_
                                        refine lv_lload_n C.1 C.2.1 dX10_join_196 rfl (lv_at hl 1 rfl) ?_
                                        refine lv_lconst (v := 0) C.1 C.2.1 dX10_join_197 (by decide) ?_
                                        refine W.lcmp C.1 C.2.1 dX10_join_198 ?_
                                        refine lv_if_ne (tgt := 208) C.1 C.2.1 dX10_join_199 (by decide) (fun c199 => ?_) (fun c199 => ?_)
                                        · rw [if_neg c199] at h
                                          refine lv_lconst (v := 1) C.1 C.2.1 dX10_join_208 (by decide) ?_
                                          refine lv_goto (tgt := 213) C.1 C.2.1 dX10_join_209 (by decide) ?_
                                          cases h
                                          exact rt_l C hP hS dX10_join_213
                                        · rw [if_pos c199] at h
                                          refine lv_lload_n C.1 C.2.1 dX10_join_202 rfl (lv_at hl 2 rfl) ?_
                                          refine lv_lconst (v := 0) C.1 C.2.1 dX10_join_203 (by decide) ?_
                                          refine W.lcmp C.1 C.2.1 dX10_join_204 ?_
                                          refine lv_if_eq (tgt := 212) C.1 C.2.1 dX10_join_205 (by decide) (fun c205 => ?_) (fun c205 => ?_)
                                          · rw [if_pos c205] at h
                                            refine lv_lconst (v := 0) C.1 C.2.1 dX10_join_212 (by decide) ?_
                                            cases h
                                            exact rt_l C hP hS dX10_join_213
                                          · rw [if_neg c205] at h
                                            refine lv_lconst (v := 1) C.1 C.2.1 dX10_join_208 (by decide) ?_
                                            refine lv_goto (tgt := 213) C.1 C.2.1 dX10_join_209 (by decide) ?_
                                            cases h
                                            exact rt_l C hP hS dX10_join_213
                                      · rw [if_neg c1_18] at h
                                        by_cases c1_19 : x0 = 57
                                        · rw [if_pos c1_19] at h
                                          rw [c1_19]
                                          refine lv_tableIn (off := 195) (tgt := 196) C.1 C.2.1 dX10_join_1 (by decide) (by decide) (by decide) (by decide) ?_
                                          refine lv_lload_n C.1 C.2.1 dX10_join_196 rfl (lv_at hl 1 rfl) ?_
                                          refine lv_lconst (v := 0) C.1 C.2.1 dX10_join_197 (by decide) ?_
                                          refine W.lcmp C.1 C.2.1 dX10_join_198 ?_
                                          refine lv_if_ne (tgt := 208) C.1 C.2.1 dX10_join_199 (by decide) (fun c199 => ?_) (fun c199 => ?_)
                                          · rw [if_neg c199] at h
                                            refine lv_lconst (v := 1) C.1 C.2.1 dX10_join_208 (by decide) ?_
                                            refine lv_goto (tgt := 213) C.1 C.2.1 dX10_join_209 (by decide) ?_
                                            cases h
                                            exact rt_l C hP hS dX10_join_213
                                          · rw [if_pos c199] at h
                                            refine lv_lload_n C.1 C.2.1 dX10_join_202 rfl (lv_at hl 2 rfl) ?_
                                            refine lv_lconst (v := 0) C.1 C.2.1 dX10_join_203 (by decide) ?_
                                            refine W.lcmp C.1 C.2.1 dX10_join_204 ?_
                                            refine lv_if_eq (tgt := 212) C.1 C.2.1 dX10_join_205 (by decide) (fun c205 => ?_) (fun c205 => ?_)
                                            · rw [if_pos c205] at h
                                              refine lv_lconst (v := 0) C.1 C.2.1 dX10_join_212 (by decide) ?_
                                              cases h
                                              exact rt_l C hP hS dX10_join_213
                                            · rw [if_neg c205] at h
                                              refine lv_lconst (v := 1) C.1 C.2.1 dX10_join_208 (by decide) ?_
                                              refine lv_goto (tgt := 213) C.1 C.2.1 dX10_join_209 (by decide) ?_
                                              cases h
                                              exact rt_l C hP hS dX10_join_213
                                        · rw [if_neg c1_19] at h
                                          by_cases c1_20 : x0 = 58
                                          · rw [if_pos c1_20] at h
                                            rw [c1_20]
                                            refine lv_tableIn (off := 195) (tgt := 196) C.1 C.2.1 dX10_join_1 (by decide) (by decide) (by decide) (by decide) ?_
                                            refine lv_lload_n C.1 C.2.1 dX10_join_196 rfl (lv_at hl 1 rfl) ?_
                                            refine lv_lconst (v := 0) C.1 C.2.1 dX10_join_197 (by decide) ?_
                                            refine W.lcmp C.1 C.2.1 dX10_join_198 ?_
                                            refine lv_if_ne (tgt := 208) C.1 C.2.1 dX10_join_199 (by decide) (fun c199 => ?_) (fun c199 => ?_)
                                            · rw [if_neg c199] at h
                                              refine lv_lconst (v := 1) C.1 C.2.1 dX10_join_208 (by decide) ?_
                                              refine lv_goto (tgt := 213) C.1 C.2.1 dX10_join_209 (by decide) ?_
                                              cases h
                                              exact rt_l C hP hS dX10_join_213
                                            · rw [if_pos c199] at h
                                              refine lv_lload_n C.1 C.2.1 dX10_join_202 rfl (lv_at hl 2 rfl) ?_
                                              refine lv_lconst (v := 0) C.1 C.2.1 dX10_join_203 (by decide) ?_
                                              refine W.lcmp C.1 C.2.1 dX10_join_204 ?_
                                              refine lv_if_eq (tgt := 212) C.1 C.2.1 dX10_join_205 (by decide) (fun c205 => ?_) (fun c205 => ?_)
                                              · rw [if_pos c205] at h
                                                refine lv_lconst (v := 0) C.1 C.2.1 dX10_join_212 (by decide) ?_
                                                cases h
                                                exact rt_l C hP hS dX10_join_213
                                              · rw [if_neg c205] at h
                                                refine lv_lconst (v := 1) C.1 C.2.1 dX10_join_208 (by decide) ?_
                                                refine lv_goto (tgt := 213) C.1 C.2.1 dX10_join_209 (by decide) ?_
                                                cases h
                                                exact rt_l C hP hS dX10_join_213
                                          · rw [if_neg c1_20] at h
                                            by_cases c1_21 : x0 = 59
                                            · rw [if_pos c1_21] at h
                                              rw [c1_21]
                                              refine lv_tableIn (off := 195) (tgt := 196) C.1 C.2.1 dX10_join_1 (by decide) (by decide) (by decide) (by decide) ?_
                                              refine lv_lload_n C.1 C.2.1 dX10_join_196 rfl (lv_at hl 1 rfl) ?_
                                              refine lv_lconst (v := 0) C.1 C.2.1 dX10_join_197 (by decide) ?_
                                              refine W.lcmp C.1 C.2.1 dX10_join_198 ?_
                                              refine lv_if_ne (tgt := 208) C.1 C.2.1 dX10_join_199 (by decide) (fun c199 => ?_) (fun c199 => ?_)
                                              · rw [if_neg c199] at h
                                                refine lv_lconst (v := 1) C.1 C.2.1 dX10_join_208 (by decide) ?_
                                                refine lv_goto (tgt := 213) C.1 C.2.1 dX10_join_209 (by decide) ?_
                                                cases h
                                                exact rt_l C hP hS dX10_join_213
                                              · rw [if_pos c199] at h
                                                refine lv_lload_n C.1 C.2.1 dX10_join_202 rfl (lv_at hl 2 rfl) ?_
                                                refine lv_lconst (v := 0) C.1 C.2.1 dX10_join_203 (by decide) ?_
                                                refine W.lcmp C.1 C.2.1 dX10_join_204 ?_
                                                refine lv_if_eq (tgt := 212) C.1 C.2.1 dX10_join_205 (by decide) (fun c205 => ?_) (fun c205 => ?_)
                                                · rw [if_pos c205] at h
                                                  refine lv_lconst (v := 0) C.1 C.2.1 dX10_join_212 (by decide) ?_
                                                  cases h
                                                  exact rt_l C hP hS dX10_join_213
                                                · rw [if_neg c205] at h
                                                  refine lv_lconst (v := 1) C.1 C.2.1 dX10_join_208 (by decide) ?_
                                                  refine lv_goto (tgt := 213) C.1 C.2.1 dX10_join_209 (by decide) ?_
                                                  cases h
                                                  exact rt_l C hP hS dX10_join_213
                                            · rw [if_neg c1_21] at h
                                              by_cases c1_22 : x0 = 60
                                              · rw [if_pos c1_22] at h
                                                rw [c1_22]
                                                refine lv_tableIn (off := 153) (tgt := 154) C.1 C.2.1 dX10_join_1 (by decide) (by decide) (by decide) (by decide) ?_
                                                refine lv_lload_n C.1 C.2.1 dX10_join_154 rfl (lv_at hl 1 rfl) ?_
                                                refine lv_lload_n C.1 C.2.1 dX10_join_155 rfl (lv_at hl 2 rfl) ?_
                                                refine W.lcmp C.1 C.2.1 dX10_join_156 ?_
                                                refine lv_if_ge (tgt := 164) C.1 C.2.1 dX10_join_157 (by decide) (fun c157 => ?_) (fun c157 => ?_)
                                                · rw [if_pos c157] at h
                                                  refine lv_lconst (v := 0) C.1 C.2.1 dX10_join_164 (by decide) ?_
                                                  cases h
                                                  exact rt_l C hP hS dX10_join_165
                                                · rw [if_neg c157] at h
                                                  refine lv_lconst (v := 1) C.1 C.2.1 dX10_join_160 (by decide) ?_
                                                  refine lv_goto (tgt := 165) C.1 C.2.1 dX10_join_161 (by decide) ?_
                                                  cases h
                                                  exact rt_l C hP hS dX10_join_165
                                              · rw [if_neg c1_22] at h
                                                by_cases c1_23 : x0 = 61
                                                · rw [if_pos c1_23] at h
                                                  rw [c1_23]
                                                  refine lv_tableIn (off := 141) (tgt := 142) C.1 C.2.1 dX10_join_1 (by decide) (by decide) (by decide) (by decide) ?_
                                                  refine lv_lload_n C.1 C.2.1 dX10_join_142 rfl (lv_at hl 1 rfl) ?_
                                                  refine lv_lload_n C.1 C.2.1 dX10_join_143 rfl (lv_at hl 2 rfl) ?_
                                                  refine W.lcmp C.1 C.2.1 dX10_join_144 ?_
                                                  refine lv_if_ne (tgt := 152) C.1 C.2.1 dX10_join_145 (by decide) (fun c145 => ?_) (fun c145 => ?_)
                                                  · rw [if_neg c145] at h
                                                    refine lv_lconst (v := 0) C.1 C.2.1 dX10_join_152 (by decide) ?_
                                                    cases h
                                                    exact rt_l C hP hS dX10_join_153
                                                  · rw [if_pos c145] at h
                                                    refine lv_lconst (v := 1) C.1 C.2.1 dX10_join_148 (by decide) ?_
                                                    refine lv_goto (tgt := 153) C.1 C.2.1 dX10_join_149 (by decide) ?_
                                                    cases h
                                                    exact rt_l C hP hS dX10_join_153
                                                · rw [if_neg c1_23] at h
                                                  by_cases c1_24 : x0 = 62
                                                  · rw [if_pos c1_24] at h
                                                    rw [c1_24]
                                                    refine lv_tableIn (off := 165) (tgt := 166) C.1 C.2.1 dX10_join_1 (by decide) (by decide) (by decide) (by decide) ?_
                                                    refine lv_lload_n C.1 C.2.1 dX10_join_166 rfl (lv_at hl 1 rfl) ?_
                                                    refine lv_lload_n C.1 C.2.1 dX10_join_167 rfl (lv_at hl 2 rfl) ?_
                                                    refine W.lcmp C.1 C.2.1 dX10_join_168 ?_
                                                    refine lv_if_le (tgt := 176) C.1 C.2.1 dX10_join_169 (by decide) (fun c169 => ?_) (fun c169 => ?_)
                                                    · rw [if_pos c169] at h
                                                      refine lv_lconst (v := 0) C.1 C.2.1 dX10_join_176 (by decide) ?_
                                                      cases h
                                                      exact rt_l C hP hS dX10_join_177
                                                    · rw [if_neg c169] at h
                                                      refine lv_lconst (v := 1) C.1 C.2.1 dX10_join_172 (by decide) ?_
                                                      refine lv_goto (tgt := 177) C.1 C.2.1 dX10_join_173 (by decide) ?_
                                                      cases h
                                                      exact rt_l C hP hS dX10_join_177
                                                  · rw [if_neg c1_24] at h
                                                    have e1_0 := lv_neT c1_0 (show (38 : Int32).toInt = 38 from by decide)
                                                    have e1_1 := lv_neT c1_1 (show (39 : Int32).toInt = 39 from by decide)
                                                    have e1_2 := lv_neT c1_2 (show (40 : Int32).toInt = 40 from by decide)
                                                    have e1_3 := lv_neT c1_3 (show (41 : Int32).toInt = 41 from by decide)
                                                    have e1_4 := lv_neT c1_4 (show (42 : Int32).toInt = 42 from by decide)
                                                    have e1_5 := lv_neT c1_5 (show (43 : Int32).toInt = 43 from by decide)
                                                    have e1_6 := lv_neT c1_6 (show (44 : Int32).toInt = 44 from by decide)
                                                    have e1_7 := lv_neT c1_7 (show (45 : Int32).toInt = 45 from by decide)
                                                    have e1_8 := lv_neT c1_8 (show (46 : Int32).toInt = 46 from by decide)
                                                    have e1_9 := lv_neT c1_9 (show (47 : Int32).toInt = 47 from by decide)
                                                    have e1_10 := lv_neT c1_10 (show (48 : Int32).toInt = 48 from by decide)
                                                    have e1_11 := lv_neT c1_11 (show (49 : Int32).toInt = 49 from by decide)
                                                    have e1_12 := lv_neT c1_12 (show (50 : Int32).toInt = 50 from by decide)
                                                    have e1_13 := lv_neT c1_13 (show (51 : Int32).toInt = 51 from by decide)
                                                    have e1_14 := lv_neT c1_14 (show (52 : Int32).toInt = 52 from by decide)
                                                    have e1_15 := lv_neT c1_15 (show (53 : Int32).toInt = 53 from by decide)
                                                    have e1_16 := lv_neT c1_16 (show (54 : Int32).toInt = 54 from by decide)
                                                    have e1_17 := lv_neT c1_17 (show (55 : Int32).toInt = 55 from by decide)
                                                    have e1_18 := lv_neT c1_18 (show (56 : Int32).toInt = 56 from by decide)
                                                    have e1_19 := lv_neT c1_19 (show (57 : Int32).toInt = 57 from by decide)
                                                    have e1_20 := lv_neT c1_20 (show (58 : Int32).toInt = 58 from by decide)
                                                    have e1_21 := lv_neT c1_21 (show (59 : Int32).toInt = 59 from by decide)
                                                    have e1_22 := lv_neT c1_22 (show (60 : Int32).toInt = 60 from by decide)
                                                    have e1_23 := lv_neT c1_23 (show (61 : Int32).toInt = 61 from by decide)
                                                    have e1_24 := lv_neT c1_24 (show (62 : Int32).toInt = 62 from by decide)
                                                    refine lv_tableOut (tgt := 196) C.1 C.2.1 dX10_join_1 (by omega) (by decide) ?_
                                                    refine lv_lload_n C.1 C.2.1 dX10_join_196 rfl (lv_at hl 1 rfl) ?_
                                                    refine lv_lconst (v := 0) C.1 C.2.1 dX10_join_197 (by decide) ?_
                                                    refine W.lcmp C.1 C.2.1 dX10_join_198 ?_
                                                    refine lv_if_ne (tgt := 208) C.1 C.2.1 dX10_join_199 (by decide) (fun c199 => ?_) (fun c199 => ?_)
                                                    · rw [if_neg c199] at h
                                                      refine lv_lconst (v := 1) C.1 C.2.1 dX10_join_208 (by decide) ?_
                                                      refine lv_goto (tgt := 213) C.1 C.2.1 dX10_join_209 (by decide) ?_
                                                      cases h
                                                      exact rt_l C hP hS dX10_join_213
                                                    · rw [if_pos c199] at h
                                                      refine lv_lload_n C.1 C.2.1 dX10_join_202 rfl (lv_at hl 2 rfl) ?_
                                                      refine lv_lconst (v := 0) C.1 C.2.1 dX10_join_203 (by decide) ?_
                                                      refine W.lcmp C.1 C.2.1 dX10_join_204 ?_
                                                      refine lv_if_eq (tgt := 212) C.1 C.2.1 dX10_join_205 (by decide) (fun c205 => ?_) (fun c205 => ?_)
                                                      · rw [if_pos c205] at h
                                                        refine lv_lconst (v := 0) C.1 C.2.1 dX10_join_212 (by decide) ?_
                                                        cases h
                                                        exact rt_l C hP hS dX10_join_213
                                                      · rw [if_neg c205] at h
                                                        refine lv_lconst (v := 1) C.1 C.2.1 dX10_join_208 (by decide) ?_
                                                        refine lv_goto (tgt := 213) C.1 C.2.1 dX10_join_209 (by decide) ?_
                                                        cases h
                                                        exact rt_l C hP hS dX10_join_213
theorem metX10_join (l : Launch) (D : va_G) (cy : Nat → ClassId) (st : Nat → Nat) (sz : Nat) (x0 : Int32) (x1 : Int64) (x3 : Int64) {r : Int64} (h : fX10_join x0 x1 x3 = some r) : Met l yX10_join wsX10_join rmX10_join (va_Pc [.int x0, .long x1, .long x3] (Px D [(cy 0, .int), (cy 1, .long), (cy 2, .boolean), (cy 3, .byte), (cy 4, .object "HissHorn$Text")] st V0 sz u00)) (Ql D V0 A0 sz r u00) 0 0 (Ax A0 sz) := by
  refine Met.ofW (cc := cX10_join) (maxL := 5) (ret := (some .long)) (by decide) rfl ?_
  intro p e s m args below meth c s₁ B hml hv
  obtain ⟨rfl, hsz, hP, hK⟩ := hv
  subst hsz
  have C : Cx RX10 cX10_join 5 (some .long) wsX10_join p s m _ meth c := ⟨B.exec, B.bytes, hml, B.returns, findClass_of_methodNamed B.named, atoms_spec (ws := wsX10_join) B.pre, B.notSynchronized⟩
  have hl := lv_entry ([.int x0, .long x1, .long x3]) (n := 5) (Nat.le_of_ble_eq_true rfl)
  rw [lg_entry_eq]
  exact wX10_join C hK x0 x1 x3 h hP va_S.rf hl

theorem zdX10_bounded_0 : (and (and (and (zk cX10_bounded 0 (.ldc2_w 21) 3) (zk cX10_bounded 3 (.ldc2_w 23) 3)) (and (zk cX10_bounded 6 (.lload_n 0) 1) (zk cX10_bounded 7 (.invokestatic 25) 3))) (and (and (zk cX10_bounded 10 (.invokestatic 31) 3) (zk cX10_bounded 13 (.l2i) 1)) (zk cX10_bounded 14 (.ireturn) 1))) = true := by decide +kernel
theorem dX10_bounded_0 : decode cX10_bounded 0 = .ok (.ldc2_w 21, 3) := zk_of (zk_l (zk_l (zk_l zdX10_bounded_0)))
theorem dX10_bounded_3 : decode cX10_bounded 3 = .ok (.ldc2_w 23, 3) := zk_of (zk_r (zk_l (zk_l zdX10_bounded_0)))
theorem dX10_bounded_6 : decode cX10_bounded 6 = .ok (.lload_n 0, 1) := zk_of (zk_l (zk_r (zk_l zdX10_bounded_0)))
theorem dX10_bounded_7 : decode cX10_bounded 7 = .ok (.invokestatic 25, 3) := zk_of (zk_r (zk_r (zk_l zdX10_bounded_0)))
theorem dX10_bounded_10 : decode cX10_bounded 10 = .ok (.invokestatic 31, 3) := zk_of (zk_l (zk_l (zk_r zdX10_bounded_0)))
theorem dX10_bounded_13 : decode cX10_bounded 13 = .ok (.l2i, 1) := zk_of (zk_r (zk_l (zk_r zdX10_bounded_0)))
theorem dX10_bounded_14 : decode cX10_bounded 14 = .ok (.ireturn, 1) := zk_of (zk_r (zk_r zdX10_bounded_0))
/-- HissHorn$Text.bounded(J)I -/
def rmX10_bounded : Room := { frames := 1, cells := 0, slots := 0, locals := 17 }
theorem mX10_bounded_0 : Cond.constantLong RX10 21 (-1000000) ∈ wsX10_bounded := (List.mem_cons_of_mem _ (List.mem_of_getElem? (i := 0) rfl))
theorem mX10_bounded_1 : Cond.constantLong RX10 23 (1000000) ∈ wsX10_bounded := (List.mem_cons_of_mem _ (List.mem_of_getElem? (i := 1) rfl))
theorem mX10_bounded_2 : Cond.methodLink RX10 25 Lib.MathLoose.min_long.x ∈ wsX10_bounded := (List.mem_cons_of_mem _ (List.mem_of_getElem? (i := 2) rfl))
theorem mX10_bounded_3 : Cond.static Lib.MathLoose.min_long.x ∈ wsX10_bounded := (List.mem_cons_of_mem _ (List.mem_of_getElem? (i := 3) rfl))
theorem mX10_bounded_4 : Cond.initialized "java/lang/Math" ∈ wsX10_bounded := (List.mem_cons_of_mem _ (List.mem_of_getElem? (i := 4) rfl))
theorem mX10_bounded_5 : Cond.code Lib.MathLoose.min_long.x Lib.MathLoose.min_long.code 4 (some .long) ∈ wsX10_bounded := (List.mem_cons_of_mem _ (List.mem_of_getElem? (i := 5) rfl))
theorem mX10_bounded_6 : Cond.methodLink RX10 31 Lib.MathLoose.max_long.x ∈ wsX10_bounded := (List.mem_cons_of_mem _ (List.mem_of_getElem? (i := 6) rfl))
theorem mX10_bounded_7 : Cond.static Lib.MathLoose.max_long.x ∈ wsX10_bounded := (List.mem_cons_of_mem _ (List.mem_of_getElem? (i := 7) rfl))
theorem mX10_bounded_8 : Cond.code Lib.MathLoose.max_long.x Lib.MathLoose.max_long.code 4 (some .long) ∈ wsX10_bounded := (List.mem_cons_of_mem _ (List.mem_of_getElem? (i := 8) rfl))
def fX10_bounded (x0 : Int64) : Option Int32 := (some ((if (if x0 < 1000000 then x0 else 1000000) < (-1000000) then (-1000000) else (if x0 < 1000000 then x0 else 1000000)).toInt32))
set_option maxHeartbeats 4000000 in
set_option maxRecDepth 100000 in
theorem wX10_bounded {p : Program} {l : Launch} {e : Env} {s : State} {m : MethodId} {args : Array Value} {below : List Frame} {meth : Method} {c : Code} {D : va_G} {cy : Nat → ClassId} {st : Nat → Nat} (C : Cx RX10 cX10_bounded 2 (some .int) wsX10_bounded p s m args meth c) (hK : Ky D [(cy 0, .int), (cy 1, .long), (cy 2, .boolean), (cy 3, .byte), (cy 4, .object "HissHorn$Text")] st s) (x0 : Int64) {r : Int32} {H : Heap} {locs : List Loc} {ls : Array Slot} (h : fX10_bounded x0 = some r) (hP : va_P D vwCl (V0 u00) H) (hS : va_S (Ax (A0) s.heap.size) s.heap H locs) (hl : lv_has ls 2 [(0, .long x0)]) : W p l e rmX10_bounded s m args below meth c H locs 0 0 (MQ below (Qi D (V0) (A0) s.heap.size r u00) args s 0 0 (Ax (A0) s.heap.size)) (F0 m 0 ls []) := by
  unfold fX10_bounded at h
  refine lv_ldc2 C.1 C.2.1 C.2.2.2.2.1 (C.2.2.2.2.2.1 _ mX10_bounded_0) dX10_bounded_0 ?_
  refine lv_ldc2 C.1 C.2.1 C.2.2.2.2.1 (C.2.2.2.2.2.1 _ mX10_bounded_1) dX10_bounded_3 ?_
  refine lv_lload_n C.1 C.2.1 dX10_bounded_6 rfl (lv_at hl 0 rfl) ?_
  refine va_mmin_long C.1 C.2.1 (C.2.2.1.trans hl.1.symm) C.2.2.2.2.1 (C.2.2.2.2.2.1 _ mX10_bounded_2) (C.2.2.2.2.2.1 _ mX10_bounded_3) (C.2.2.2.2.2.1 _ mX10_bounded_4) (C.2.2.2.2.2.1 _ mX10_bounded_5) (Nat.le_of_ble_eq_true rfl) (Nat.le_of_ble_eq_true rfl) (Nat.zero_le _) (Nat.zero_le _) dX10_bounded_7 ?_
  refine va_mmax_long C.1 C.2.1 (C.2.2.1.trans hl.1.symm) C.2.2.2.2.1 (C.2.2.2.2.2.1 _ mX10_bounded_6) (C.2.2.2.2.2.1 _ mX10_bounded_7) (C.2.2.2.2.2.1 _ mX10_bounded_4) (C.2.2.2.2.2.1 _ mX10_bounded_8) (Nat.le_of_ble_eq_true rfl) (Nat.le_of_ble_eq_true rfl) (Nat.zero_le _) (Nat.zero_le _) dX10_bounded_10 ?_
  refine lv_l2i (v := (if (if x0 < 1000000 then x0 else 1000000) < (-1000000) then (-1000000) else (if x0 < 1000000 then x0 else 1000000)).toInt32) C.1 C.2.1 dX10_bounded_13 rfl ?_
  cases h
  exact rt_i C hP hS dX10_bounded_14
theorem metX10_bounded (l : Launch) (D : va_G) (cy : Nat → ClassId) (st : Nat → Nat) (sz : Nat) (x0 : Int64) {r : Int32} (h : fX10_bounded x0 = some r) : Met l yX10_bounded wsX10_bounded rmX10_bounded (va_Pc [.long x0] (Px D [(cy 0, .int), (cy 1, .long), (cy 2, .boolean), (cy 3, .byte), (cy 4, .object "HissHorn$Text")] st V0 sz u00)) (Qi D V0 A0 sz r u00) 0 0 (Ax A0 sz) := by
  refine Met.ofW (cc := cX10_bounded) (maxL := 2) (ret := (some .int)) (by decide) rfl ?_
  intro p e s m args below meth c s₁ B hml hv
  obtain ⟨rfl, hsz, hP, hK⟩ := hv
  subst hsz
  have C : Cx RX10 cX10_bounded 2 (some .int) wsX10_bounded p s m _ meth c := ⟨B.exec, B.bytes, hml, B.returns, findClass_of_methodNamed B.named, atoms_spec (ws := wsX10_bounded) B.pre, B.notSynchronized⟩
  have hl := lv_entry ([.long x0]) (n := 2) (Nat.le_of_ble_eq_true rfl)
  rw [lg_entry_eq]
  exact wX10_bounded C hK x0 h hP va_S.rf hl

theorem zdX10_worthBy_227 : (and (and (and (and (and (zk cX10_worthBy 227 (.iinc 5 1) 3) (zk cX10_worthBy 230 (.goto (-222)) 3)) (and (zk cX10_worthBy 119 (.iastore) 1) (zk cX10_worthBy 120 (.iinc 3 1) 3))) (and (and (zk cX10_worthBy 123 (.goto 104) 3) (zk cX10_worthBy 101 (.aload_n 2) 1)) (and (zk cX10_worthBy 102 (.iload_n 3) 1) (zk cX10_worthBy 103 (.iload 6) 2)))) (and (and (and (zk cX10_worthBy 105 (.bipush 48) 2) (zk cX10_worthBy 107 (.if_icmp .ne 8) 3)) (and (zk cX10_worthBy 115 (.aload_n 1) 1) (zk cX10_worthBy 116 (.iload 7) 2))) (and (and (zk cX10_worthBy 118 (.iaload) 1) (zk cX10_worthBy 110 (.iload 7) 2)) (and (zk cX10_worthBy 112 (.goto 7) 3) (zk cX10_worthBy 79 (.iload_n 3) 1))))) (and (and (and (and (zk cX10_worthBy 80 (.aload_n 2) 1) (zk cX10_worthBy 81 (.arraylength) 1)) (and (zk cX10_worthBy 82 (.if_icmp .ge 17) 3) (zk cX10_worthBy 99 (.iconst 0) 1))) (and (and (zk cX10_worthBy 100 (.ireturn) 1) (zk cX10_worthBy 85 (.iload 6) 2)) (and (zk cX10_worthBy 87 (.bipush 121) 2) (zk cX10_worthBy 89 (.if_icmp .ne 12) 3)))) (and (and (and (zk cX10_worthBy 92 (.iload 7) 2) (zk cX10_worthBy 94 (.aload_n 1) 1)) (and (zk cX10_worthBy 95 (.arraylength) 1) (zk cX10_worthBy 96 (.if_icmp .lt 5) 3))) (and (and (zk cX10_worthBy 167 (.istore 4) 2) (zk cX10_worthBy 169 (.goto 58) 3)) (and (zk cX10_worthBy 60 (.istore 4) 2) (zk cX10_worthBy 62 (.goto 165) 3)))))) = true := by decide +kernel
theorem dX10_worthBy_227 : decode cX10_worthBy 227 = .ok (.iinc 5 1, 3) := zk_of (zk_l (zk_l (zk_l (zk_l (zk_l zdX10_worthBy_227)))))
theorem dX10_worthBy_230 : decode cX10_worthBy 230 = .ok (.goto (-222), 3) := zk_of (zk_r (zk_l (zk_l (zk_l (zk_l zdX10_worthBy_227)))))
theorem dX10_worthBy_119 : decode cX10_worthBy 119 = .ok (.iastore, 1) := zk_of (zk_l (zk_r (zk_l (zk_l (zk_l zdX10_worthBy_227)))))
theorem dX10_worthBy_120 : decode cX10_worthBy 120 = .ok (.iinc 3 1, 3) := zk_of (zk_r (zk_r (zk_l (zk_l (zk_l zdX10_worthBy_227)))))
theorem dX10_worthBy_123 : decode cX10_worthBy 123 = .ok (.goto 104, 3) := zk_of (zk_l (zk_l (zk_r (zk_l (zk_l zdX10_worthBy_227)))))
theorem dX10_worthBy_101 : decode cX10_worthBy 101 = .ok (.aload_n 2, 1) := zk_of (zk_r (zk_l (zk_r (zk_l (zk_l zdX10_worthBy_227)))))
theorem dX10_worthBy_102 : decode cX10_worthBy 102 = .ok (.iload_n 3, 1) := zk_of (zk_l (zk_r (zk_r (zk_l (zk_l zdX10_worthBy_227)))))
theorem dX10_worthBy_103 : decode cX10_worthBy 103 = .ok (.iload 6, 2) := zk_of (zk_r (zk_r (zk_r (zk_l (zk_l zdX10_worthBy_227)))))
theorem dX10_worthBy_105 : decode cX10_worthBy 105 = .ok (.bipush 48, 2) := zk_of (zk_l (zk_l (zk_l (zk_r (zk_l zdX10_worthBy_227)))))
theorem dX10_worthBy_107 : decode cX10_worthBy 107 = .ok (.if_icmp .ne 8, 3) := zk_of (zk_r (zk_l (zk_l (zk_r (zk_l zdX10_worthBy_227)))))
theorem dX10_worthBy_115 : decode cX10_worthBy 115 = .ok (.aload_n 1, 1) := zk_of (zk_l (zk_r (zk_l (zk_r (zk_l zdX10_worthBy_227)))))
theorem dX10_worthBy_116 : decode cX10_worthBy 116 = .ok (.iload 7, 2) := zk_of (zk_r (zk_r (zk_l (zk_r (zk_l zdX10_worthBy_227)))))
theorem dX10_worthBy_118 : decode cX10_worthBy 118 = .ok (.iaload, 1) := zk_of (zk_l (zk_l (zk_r (zk_r (zk_l zdX10_worthBy_227)))))
theorem dX10_worthBy_110 : decode cX10_worthBy 110 = .ok (.iload 7, 2) := zk_of (zk_r (zk_l (zk_r (zk_r (zk_l zdX10_worthBy_227)))))
theorem dX10_worthBy_112 : decode cX10_worthBy 112 = .ok (.goto 7, 3) := zk_of (zk_l (zk_r (zk_r (zk_r (zk_l zdX10_worthBy_227)))))
theorem dX10_worthBy_79 : decode cX10_worthBy 79 = .ok (.iload_n 3, 1) := zk_of (zk_r (zk_r (zk_r (zk_r (zk_l zdX10_worthBy_227)))))
theorem dX10_worthBy_80 : decode cX10_worthBy 80 = .ok (.aload_n 2, 1) := zk_of (zk_l (zk_l (zk_l (zk_l (zk_r zdX10_worthBy_227)))))
theorem dX10_worthBy_81 : decode cX10_worthBy 81 = .ok (.arraylength, 1) := zk_of (zk_r (zk_l (zk_l (zk_l (zk_r zdX10_worthBy_227)))))
theorem dX10_worthBy_82 : decode cX10_worthBy 82 = .ok (.if_icmp .ge 17, 3) := zk_of (zk_l (zk_r (zk_l (zk_l (zk_r zdX10_worthBy_227)))))
theorem dX10_worthBy_99 : decode cX10_worthBy 99 = .ok (.iconst 0, 1) := zk_of (zk_r (zk_r (zk_l (zk_l (zk_r zdX10_worthBy_227)))))
theorem dX10_worthBy_100 : decode cX10_worthBy 100 = .ok (.ireturn, 1) := zk_of (zk_l (zk_l (zk_r (zk_l (zk_r zdX10_worthBy_227)))))
theorem dX10_worthBy_85 : decode cX10_worthBy 85 = .ok (.iload 6, 2) := zk_of (zk_r (zk_l (zk_r (zk_l (zk_r zdX10_worthBy_227)))))
theorem dX10_worthBy_87 : decode cX10_worthBy 87 = .ok (.bipush 121, 2) := zk_of (zk_l (zk_r (zk_r (zk_l (zk_r zdX10_worthBy_227)))))
theorem dX10_worthBy_89 : decode cX10_worthBy 89 = .ok (.if_icmp .ne 12, 3) := zk_of (zk_r (zk_r (zk_r (zk_l (zk_r zdX10_worthBy_227)))))
theorem dX10_worthBy_92 : decode cX10_worthBy 92 = .ok (.iload 7, 2) := zk_of (zk_l (zk_l (zk_l (zk_r (zk_r zdX10_worthBy_227)))))
theorem dX10_worthBy_94 : decode cX10_worthBy 94 = .ok (.aload_n 1, 1) := zk_of (zk_r (zk_l (zk_l (zk_r (zk_r zdX10_worthBy_227)))))
theorem dX10_worthBy_95 : decode cX10_worthBy 95 = .ok (.arraylength, 1) := zk_of (zk_l (zk_r (zk_l (zk_r (zk_r zdX10_worthBy_227)))))
theorem dX10_worthBy_96 : decode cX10_worthBy 96 = .ok (.if_icmp .lt 5, 3) := zk_of (zk_r (zk_r (zk_l (zk_r (zk_r zdX10_worthBy_227)))))
theorem dX10_worthBy_167 : decode cX10_worthBy 167 = .ok (.istore 4, 2) := zk_of (zk_l (zk_l (zk_r (zk_r (zk_r zdX10_worthBy_227)))))
theorem dX10_worthBy_169 : decode cX10_worthBy 169 = .ok (.goto 58, 3) := zk_of (zk_r (zk_l (zk_r (zk_r (zk_r zdX10_worthBy_227)))))
theorem dX10_worthBy_60 : decode cX10_worthBy 60 = .ok (.istore 4, 2) := zk_of (zk_l (zk_r (zk_r (zk_r (zk_r zdX10_worthBy_227)))))
theorem dX10_worthBy_62 : decode cX10_worthBy 62 = .ok (.goto 165, 3) := zk_of (zk_r (zk_r (zk_r (zk_r (zk_r zdX10_worthBy_227)))))
theorem zdX10_worthBy_8 : (and (and (and (and (and (zk cX10_worthBy 8 (.iload 5) 2) (zk cX10_worthBy 10 (.aload_n 0) 1)) (and (zk cX10_worthBy 11 (.getfield 7) 3) (zk cX10_worthBy 14 (.arraylength) 1))) (and (and (zk cX10_worthBy 15 (.if_icmp .ge 218) 3) (zk cX10_worthBy 233 (.iconst 0) 1)) (and (zk cX10_worthBy 234 (.ireturn) 1) (zk cX10_worthBy 18 (.aload_n 0) 1)))) (and (and (and (zk cX10_worthBy 19 (.getfield 7) 3) (zk cX10_worthBy 22 (.iload 5) 2)) (and (zk cX10_worthBy 24 (.iaload) 1) (zk cX10_worthBy 25 (.sipush 255) 3))) (and (and (zk cX10_worthBy 28 (.iand) 1) (zk cX10_worthBy 29 (.istore 6) 2)) (and (zk cX10_worthBy 31 (.aload_n 0) 1) (zk cX10_worthBy 32 (.getfield 7) 3))))) (and (and (and (and (zk cX10_worthBy 35 (.iload 5) 2) (zk cX10_worthBy 37 (.iaload) 1)) (and (zk cX10_worthBy 38 (.bipush 8) 2) (zk cX10_worthBy 40 (.ishr) 1))) (and (and (zk cX10_worthBy 41 (.istore 7) 2) (zk cX10_worthBy 43 (.iload 4) 2)) (and (zk cX10_worthBy 45 (.ifCond .eq 20) 3) (zk cX10_worthBy 65 (.iload 6) 2)))) (and (and (and (zk cX10_worthBy 67 (.bipush 48) 2) (zk cX10_worthBy 69 (.if_icmp .eq 10) 3)) (and (zk cX10_worthBy 72 (.iload 6) 2) (zk cX10_worthBy 74 (.bipush 121) 2))) (and (and (zk cX10_worthBy 76 (.if_icmp .ne 50) 3) (zk cX10_worthBy 126 (.iload_n 3) 1)) (and (zk cX10_worthBy 127 (.iconst 1) 1) (zk cX10_worthBy 128 (.if_icmp .ge 5) 3)))))) = true := by decide +kernel
theorem dX10_worthBy_8 : decode cX10_worthBy 8 = .ok (.iload 5, 2) := zk_of (zk_l (zk_l (zk_l (zk_l (zk_l zdX10_worthBy_8)))))
theorem dX10_worthBy_10 : decode cX10_worthBy 10 = .ok (.aload_n 0, 1) := zk_of (zk_r (zk_l (zk_l (zk_l (zk_l zdX10_worthBy_8)))))
theorem dX10_worthBy_11 : decode cX10_worthBy 11 = .ok (.getfield 7, 3) := zk_of (zk_l (zk_r (zk_l (zk_l (zk_l zdX10_worthBy_8)))))
theorem dX10_worthBy_14 : decode cX10_worthBy 14 = .ok (.arraylength, 1) := zk_of (zk_r (zk_r (zk_l (zk_l (zk_l zdX10_worthBy_8)))))
theorem dX10_worthBy_15 : decode cX10_worthBy 15 = .ok (.if_icmp .ge 218, 3) := zk_of (zk_l (zk_l (zk_r (zk_l (zk_l zdX10_worthBy_8)))))
theorem dX10_worthBy_233 : decode cX10_worthBy 233 = .ok (.iconst 0, 1) := zk_of (zk_r (zk_l (zk_r (zk_l (zk_l zdX10_worthBy_8)))))
theorem dX10_worthBy_234 : decode cX10_worthBy 234 = .ok (.ireturn, 1) := zk_of (zk_l (zk_r (zk_r (zk_l (zk_l zdX10_worthBy_8)))))
theorem dX10_worthBy_18 : decode cX10_worthBy 18 = .ok (.aload_n 0, 1) := zk_of (zk_r (zk_r (zk_r (zk_l (zk_l zdX10_worthBy_8)))))
theorem dX10_worthBy_19 : decode cX10_worthBy 19 = .ok (.getfield 7, 3) := zk_of (zk_l (zk_l (zk_l (zk_r (zk_l zdX10_worthBy_8)))))
theorem dX10_worthBy_22 : decode cX10_worthBy 22 = .ok (.iload 5, 2) := zk_of (zk_r (zk_l (zk_l (zk_r (zk_l zdX10_worthBy_8)))))
theorem dX10_worthBy_24 : decode cX10_worthBy 24 = .ok (.iaload, 1) := zk_of (zk_l (zk_r (zk_l (zk_r (zk_l zdX10_worthBy_8)))))
theorem dX10_worthBy_25 : decode cX10_worthBy 25 = .ok (.sipush 255, 3) := zk_of (zk_r (zk_r (zk_l (zk_r (zk_l zdX10_worthBy_8)))))
theorem dX10_worthBy_28 : decode cX10_worthBy 28 = .ok (.iand, 1) := zk_of (zk_l (zk_l (zk_r (zk_r (zk_l zdX10_worthBy_8)))))
theorem dX10_worthBy_29 : decode cX10_worthBy 29 = .ok (.istore 6, 2) := zk_of (zk_r (zk_l (zk_r (zk_r (zk_l zdX10_worthBy_8)))))
theorem dX10_worthBy_31 : decode cX10_worthBy 31 = .ok (.aload_n 0, 1) := zk_of (zk_l (zk_r (zk_r (zk_r (zk_l zdX10_worthBy_8)))))
theorem dX10_worthBy_32 : decode cX10_worthBy 32 = .ok (.getfield 7, 3) := zk_of (zk_r (zk_r (zk_r (zk_r (zk_l zdX10_worthBy_8)))))
theorem dX10_worthBy_35 : decode cX10_worthBy 35 = .ok (.iload 5, 2) := zk_of (zk_l (zk_l (zk_l (zk_l (zk_r zdX10_worthBy_8)))))
theorem dX10_worthBy_37 : decode cX10_worthBy 37 = .ok (.iaload, 1) := zk_of (zk_r (zk_l (zk_l (zk_l (zk_r zdX10_worthBy_8)))))
theorem dX10_worthBy_38 : decode cX10_worthBy 38 = .ok (.bipush 8, 2) := zk_of (zk_l (zk_r (zk_l (zk_l (zk_r zdX10_worthBy_8)))))
theorem dX10_worthBy_40 : decode cX10_worthBy 40 = .ok (.ishr, 1) := zk_of (zk_r (zk_r (zk_l (zk_l (zk_r zdX10_worthBy_8)))))
theorem dX10_worthBy_41 : decode cX10_worthBy 41 = .ok (.istore 7, 2) := zk_of (zk_l (zk_l (zk_r (zk_l (zk_r zdX10_worthBy_8)))))
theorem dX10_worthBy_43 : decode cX10_worthBy 43 = .ok (.iload 4, 2) := zk_of (zk_r (zk_l (zk_r (zk_l (zk_r zdX10_worthBy_8)))))
theorem dX10_worthBy_45 : decode cX10_worthBy 45 = .ok (.ifCond .eq 20, 3) := zk_of (zk_l (zk_r (zk_r (zk_l (zk_r zdX10_worthBy_8)))))
theorem dX10_worthBy_65 : decode cX10_worthBy 65 = .ok (.iload 6, 2) := zk_of (zk_r (zk_r (zk_r (zk_l (zk_r zdX10_worthBy_8)))))
theorem dX10_worthBy_67 : decode cX10_worthBy 67 = .ok (.bipush 48, 2) := zk_of (zk_l (zk_l (zk_l (zk_r (zk_r zdX10_worthBy_8)))))
theorem dX10_worthBy_69 : decode cX10_worthBy 69 = .ok (.if_icmp .eq 10, 3) := zk_of (zk_r (zk_l (zk_l (zk_r (zk_r zdX10_worthBy_8)))))
theorem dX10_worthBy_72 : decode cX10_worthBy 72 = .ok (.iload 6, 2) := zk_of (zk_l (zk_r (zk_l (zk_r (zk_r zdX10_worthBy_8)))))
theorem dX10_worthBy_74 : decode cX10_worthBy 74 = .ok (.bipush 121, 2) := zk_of (zk_r (zk_r (zk_l (zk_r (zk_r zdX10_worthBy_8)))))
theorem dX10_worthBy_76 : decode cX10_worthBy 76 = .ok (.if_icmp .ne 50, 3) := zk_of (zk_l (zk_l (zk_r (zk_r (zk_r zdX10_worthBy_8)))))
theorem dX10_worthBy_126 : decode cX10_worthBy 126 = .ok (.iload_n 3, 1) := zk_of (zk_r (zk_l (zk_r (zk_r (zk_r zdX10_worthBy_8)))))
theorem dX10_worthBy_127 : decode cX10_worthBy 127 = .ok (.iconst 1, 1) := zk_of (zk_l (zk_r (zk_r (zk_r (zk_r zdX10_worthBy_8)))))
theorem dX10_worthBy_128 : decode cX10_worthBy 128 = .ok (.if_icmp .ge 5, 3) := zk_of (zk_r (zk_r (zk_r (zk_r (zk_r zdX10_worthBy_8)))))
theorem zdX10_worthBy_133 : (and (and (and (and (and (zk cX10_worthBy 133 (.iload 6) 2) (zk cX10_worthBy 135 (.bipush 59) 2)) (and (zk cX10_worthBy 137 (.if_icmp .ne 9) 3) (zk cX10_worthBy 146 (.iload 6) 2))) (and (and (zk cX10_worthBy 148 (.bipush 63) 2) (zk cX10_worthBy 150 (.if_icmp .ne 22) 3)) (and (zk cX10_worthBy 172 (.iload 6) 2) (zk cX10_worthBy 174 (.bipush 33) 2)))) (and (and (and (zk cX10_worthBy 176 (.if_icmp .ne 18) 3) (zk cX10_worthBy 194 (.iload_n 3) 1)) (and (zk cX10_worthBy 195 (.iconst 2) 1) (zk cX10_worthBy 196 (.if_icmp .ge 5) 3))) (and (and (zk cX10_worthBy 201 (.iinc 3 (-1)) 3) (zk cX10_worthBy 204 (.aload_n 2) 1)) (and (zk cX10_worthBy 205 (.iload_n 3) 1) (zk cX10_worthBy 206 (.iconst 1) 1))))) (and (and (and (and (zk cX10_worthBy 207 (.isub) 1) (zk cX10_worthBy 208 (.iload 6) 2)) (and (zk cX10_worthBy 210 (.aload_n 2) 1) (zk cX10_worthBy 211 (.iload_n 3) 1))) (and (and (zk cX10_worthBy 212 (.iconst 1) 1) (zk cX10_worthBy 213 (.isub) 1)) (and (zk cX10_worthBy 214 (.iaload) 1) (zk cX10_worthBy 215 (.i2l) 1)))) (and (and (and (zk cX10_worthBy 216 (.aload_n 2) 1) (zk cX10_worthBy 217 (.iload_n 3) 1)) (and (zk cX10_worthBy 218 (.iaload) 1) (zk cX10_worthBy 219 (.i2l) 1))) (and (and (zk cX10_worthBy 220 (.invokestatic 13) 3) (zk cX10_worthBy 223 (.invokestatic 17) 3)) (and (zk cX10_worthBy 226 (.iastore) 1) (zk cX10_worthBy 199 (.iconst 0) 1)))))) = true := by decide +kernel
theorem dX10_worthBy_133 : decode cX10_worthBy 133 = .ok (.iload 6, 2) := zk_of (zk_l (zk_l (zk_l (zk_l (zk_l zdX10_worthBy_133)))))
theorem dX10_worthBy_135 : decode cX10_worthBy 135 = .ok (.bipush 59, 2) := zk_of (zk_r (zk_l (zk_l (zk_l (zk_l zdX10_worthBy_133)))))
theorem dX10_worthBy_137 : decode cX10_worthBy 137 = .ok (.if_icmp .ne 9, 3) := zk_of (zk_l (zk_r (zk_l (zk_l (zk_l zdX10_worthBy_133)))))
theorem dX10_worthBy_146 : decode cX10_worthBy 146 = .ok (.iload 6, 2) := zk_of (zk_r (zk_r (zk_l (zk_l (zk_l zdX10_worthBy_133)))))
theorem dX10_worthBy_148 : decode cX10_worthBy 148 = .ok (.bipush 63, 2) := zk_of (zk_l (zk_l (zk_r (zk_l (zk_l zdX10_worthBy_133)))))
theorem dX10_worthBy_150 : decode cX10_worthBy 150 = .ok (.if_icmp .ne 22, 3) := zk_of (zk_r (zk_l (zk_r (zk_l (zk_l zdX10_worthBy_133)))))
theorem dX10_worthBy_172 : decode cX10_worthBy 172 = .ok (.iload 6, 2) := zk_of (zk_l (zk_r (zk_r (zk_l (zk_l zdX10_worthBy_133)))))
theorem dX10_worthBy_174 : decode cX10_worthBy 174 = .ok (.bipush 33, 2) := zk_of (zk_r (zk_r (zk_r (zk_l (zk_l zdX10_worthBy_133)))))
theorem dX10_worthBy_176 : decode cX10_worthBy 176 = .ok (.if_icmp .ne 18, 3) := zk_of (zk_l (zk_l (zk_l (zk_r (zk_l zdX10_worthBy_133)))))
theorem dX10_worthBy_194 : decode cX10_worthBy 194 = .ok (.iload_n 3, 1) := zk_of (zk_r (zk_l (zk_l (zk_r (zk_l zdX10_worthBy_133)))))
theorem dX10_worthBy_195 : decode cX10_worthBy 195 = .ok (.iconst 2, 1) := zk_of (zk_l (zk_r (zk_l (zk_r (zk_l zdX10_worthBy_133)))))
theorem dX10_worthBy_196 : decode cX10_worthBy 196 = .ok (.if_icmp .ge 5, 3) := zk_of (zk_r (zk_r (zk_l (zk_r (zk_l zdX10_worthBy_133)))))
theorem dX10_worthBy_201 : decode cX10_worthBy 201 = .ok (.iinc 3 (-1), 3) := zk_of (zk_l (zk_l (zk_r (zk_r (zk_l zdX10_worthBy_133)))))
theorem dX10_worthBy_204 : decode cX10_worthBy 204 = .ok (.aload_n 2, 1) := zk_of (zk_r (zk_l (zk_r (zk_r (zk_l zdX10_worthBy_133)))))
theorem dX10_worthBy_205 : decode cX10_worthBy 205 = .ok (.iload_n 3, 1) := zk_of (zk_l (zk_r (zk_r (zk_r (zk_l zdX10_worthBy_133)))))
theorem dX10_worthBy_206 : decode cX10_worthBy 206 = .ok (.iconst 1, 1) := zk_of (zk_r (zk_r (zk_r (zk_r (zk_l zdX10_worthBy_133)))))
theorem dX10_worthBy_207 : decode cX10_worthBy 207 = .ok (.isub, 1) := zk_of (zk_l (zk_l (zk_l (zk_l (zk_r zdX10_worthBy_133)))))
theorem dX10_worthBy_208 : decode cX10_worthBy 208 = .ok (.iload 6, 2) := zk_of (zk_r (zk_l (zk_l (zk_l (zk_r zdX10_worthBy_133)))))
theorem dX10_worthBy_210 : decode cX10_worthBy 210 = .ok (.aload_n 2, 1) := zk_of (zk_l (zk_r (zk_l (zk_l (zk_r zdX10_worthBy_133)))))
theorem dX10_worthBy_211 : decode cX10_worthBy 211 = .ok (.iload_n 3, 1) := zk_of (zk_r (zk_r (zk_l (zk_l (zk_r zdX10_worthBy_133)))))
theorem dX10_worthBy_212 : decode cX10_worthBy 212 = .ok (.iconst 1, 1) := zk_of (zk_l (zk_l (zk_r (zk_l (zk_r zdX10_worthBy_133)))))
theorem dX10_worthBy_213 : decode cX10_worthBy 213 = .ok (.isub, 1) := zk_of (zk_r (zk_l (zk_r (zk_l (zk_r zdX10_worthBy_133)))))
theorem dX10_worthBy_214 : decode cX10_worthBy 214 = .ok (.iaload, 1) := zk_of (zk_l (zk_r (zk_r (zk_l (zk_r zdX10_worthBy_133)))))
theorem dX10_worthBy_215 : decode cX10_worthBy 215 = .ok (.i2l, 1) := zk_of (zk_r (zk_r (zk_r (zk_l (zk_r zdX10_worthBy_133)))))
theorem dX10_worthBy_216 : decode cX10_worthBy 216 = .ok (.aload_n 2, 1) := zk_of (zk_l (zk_l (zk_l (zk_r (zk_r zdX10_worthBy_133)))))
theorem dX10_worthBy_217 : decode cX10_worthBy 217 = .ok (.iload_n 3, 1) := zk_of (zk_r (zk_l (zk_l (zk_r (zk_r zdX10_worthBy_133)))))
theorem dX10_worthBy_218 : decode cX10_worthBy 218 = .ok (.iaload, 1) := zk_of (zk_l (zk_r (zk_l (zk_r (zk_r zdX10_worthBy_133)))))
theorem dX10_worthBy_219 : decode cX10_worthBy 219 = .ok (.i2l, 1) := zk_of (zk_r (zk_r (zk_l (zk_r (zk_r zdX10_worthBy_133)))))
theorem dX10_worthBy_220 : decode cX10_worthBy 220 = .ok (.invokestatic 13, 3) := zk_of (zk_l (zk_l (zk_r (zk_r (zk_r zdX10_worthBy_133)))))
theorem dX10_worthBy_223 : decode cX10_worthBy 223 = .ok (.invokestatic 17, 3) := zk_of (zk_r (zk_l (zk_r (zk_r (zk_r zdX10_worthBy_133)))))
theorem dX10_worthBy_226 : decode cX10_worthBy 226 = .ok (.iastore, 1) := zk_of (zk_l (zk_r (zk_r (zk_r (zk_r zdX10_worthBy_133)))))
theorem dX10_worthBy_199 : decode cX10_worthBy 199 = .ok (.iconst 0, 1) := zk_of (zk_r (zk_r (zk_r (zk_r (zk_r zdX10_worthBy_133)))))
set_option maxRecDepth 20000 in
theorem ggX10_worthBy_X10_join : GoodIn wsX10_worthBy wsX10_join := goodIn_r _ [5] rfl (by decide +kernel)
set_option maxRecDepth 20000 in
theorem gX10_worthBy_X10_join : GoodIn wsX10_worthBy (va_wsS RX10 13 yX10_join wsX10_join) := goodIn_app (goodIn_of _ (by decide +kernel)) ggX10_worthBy_X10_join
set_option maxRecDepth 20000 in
theorem ggX10_worthBy_X10_bounded : GoodIn wsX10_worthBy wsX10_bounded := goodIn_r _ [8, 9, 10, 11, 12, 13, 14, 15, 16, 17] rfl (by decide +kernel)
set_option maxRecDepth 20000 in
theorem gX10_worthBy_X10_bounded : GoodIn wsX10_worthBy (va_wsS RX10 17 yX10_bounded wsX10_bounded) := goodIn_app (goodIn_of _ (by decide +kernel)) ggX10_worthBy_X10_bounded
theorem zdX10_worthBy_200 : (and (and (and (and (and (zk cX10_worthBy 200 (.ireturn) 1) (zk cX10_worthBy 179 (.aload_n 2) 1)) (and (zk cX10_worthBy 180 (.iload_n 3) 1) (zk cX10_worthBy 181 (.iconst 1) 1))) (and (and (zk cX10_worthBy 182 (.isub) 1) (zk cX10_worthBy 183 (.iconst 1) 1)) (and (zk cX10_worthBy 184 (.aload_n 2) 1) (zk cX10_worthBy 185 (.iload_n 3) 1)))) (and (and (and (zk cX10_worthBy 186 (.iconst 1) 1) (zk cX10_worthBy 187 (.isub) 1)) (and (zk cX10_worthBy 188 (.iaload) 1) (zk cX10_worthBy 189 (.isub) 1))) (and (and (zk cX10_worthBy 190 (.iastore) 1) (zk cX10_worthBy 191 (.goto 36) 3)) (and (zk cX10_worthBy 153 (.iinc 3 (-1)) 3) (zk cX10_worthBy 156 (.aload_n 2) 1))))) (and (and (and (and (zk cX10_worthBy 157 (.iload_n 3) 1) (zk cX10_worthBy 158 (.iaload) 1)) (and (zk cX10_worthBy 159 (.ifCond .ne 7) 3) (zk cX10_worthBy 166 (.iconst 0) 1))) (and (and (zk cX10_worthBy 162 (.iconst 1) 1) (zk cX10_worthBy 163 (.goto 4) 3)) (and (zk cX10_worthBy 140 (.aload_n 2) 1) (zk cX10_worthBy 141 (.iload_n 3) 1)))) (and (and (and (zk cX10_worthBy 142 (.iconst 1) 1) (zk cX10_worthBy 143 (.isub) 1)) (and (zk cX10_worthBy 144 (.iaload) 1) (zk cX10_worthBy 145 (.ireturn) 1))) (and (and (zk cX10_worthBy 131 (.iconst 0) 1) (zk cX10_worthBy 132 (.ireturn) 1)) (and (zk cX10_worthBy 48 (.iload 6) 2) (zk cX10_worthBy 50 (.bipush 59) 2)))))) = true := by decide +kernel
theorem dX10_worthBy_200 : decode cX10_worthBy 200 = .ok (.ireturn, 1) := zk_of (zk_l (zk_l (zk_l (zk_l (zk_l zdX10_worthBy_200)))))
theorem dX10_worthBy_179 : decode cX10_worthBy 179 = .ok (.aload_n 2, 1) := zk_of (zk_r (zk_l (zk_l (zk_l (zk_l zdX10_worthBy_200)))))
theorem dX10_worthBy_180 : decode cX10_worthBy 180 = .ok (.iload_n 3, 1) := zk_of (zk_l (zk_r (zk_l (zk_l (zk_l zdX10_worthBy_200)))))
theorem dX10_worthBy_181 : decode cX10_worthBy 181 = .ok (.iconst 1, 1) := zk_of (zk_r (zk_r (zk_l (zk_l (zk_l zdX10_worthBy_200)))))
theorem dX10_worthBy_182 : decode cX10_worthBy 182 = .ok (.isub, 1) := zk_of (zk_l (zk_l (zk_r (zk_l (zk_l zdX10_worthBy_200)))))
theorem dX10_worthBy_183 : decode cX10_worthBy 183 = .ok (.iconst 1, 1) := zk_of (zk_r (zk_l (zk_r (zk_l (zk_l zdX10_worthBy_200)))))
theorem dX10_worthBy_184 : decode cX10_worthBy 184 = .ok (.aload_n 2, 1) := zk_of (zk_l (zk_r (zk_r (zk_l (zk_l zdX10_worthBy_200)))))
theorem dX10_worthBy_185 : decode cX10_worthBy 185 = .ok (.iload_n 3, 1) := zk_of (zk_r (zk_r (zk_r (zk_l (zk_l zdX10_worthBy_200)))))
theorem dX10_worthBy_186 : decode cX10_worthBy 186 = .ok (.iconst 1, 1) := zk_of (zk_l (zk_l (zk_l (zk_r (zk_l zdX10_worthBy_200)))))
theorem dX10_worthBy_187 : decode cX10_worthBy 187 = .ok (.isub, 1) := zk_of (zk_r (zk_l (zk_l (zk_r (zk_l zdX10_worthBy_200)))))
theorem dX10_worthBy_188 : decode cX10_worthBy 188 = .ok (.iaload, 1) := zk_of (zk_l (zk_r (zk_l (zk_r (zk_l zdX10_worthBy_200)))))
theorem dX10_worthBy_189 : decode cX10_worthBy 189 = .ok (.isub, 1) := zk_of (zk_r (zk_r (zk_l (zk_r (zk_l zdX10_worthBy_200)))))
theorem dX10_worthBy_190 : decode cX10_worthBy 190 = .ok (.iastore, 1) := zk_of (zk_l (zk_l (zk_r (zk_r (zk_l zdX10_worthBy_200)))))
theorem dX10_worthBy_191 : decode cX10_worthBy 191 = .ok (.goto 36, 3) := zk_of (zk_r (zk_l (zk_r (zk_r (zk_l zdX10_worthBy_200)))))
theorem dX10_worthBy_153 : decode cX10_worthBy 153 = .ok (.iinc 3 (-1), 3) := zk_of (zk_l (zk_r (zk_r (zk_r (zk_l zdX10_worthBy_200)))))
theorem dX10_worthBy_156 : decode cX10_worthBy 156 = .ok (.aload_n 2, 1) := zk_of (zk_r (zk_r (zk_r (zk_r (zk_l zdX10_worthBy_200)))))
theorem dX10_worthBy_157 : decode cX10_worthBy 157 = .ok (.iload_n 3, 1) := zk_of (zk_l (zk_l (zk_l (zk_l (zk_r zdX10_worthBy_200)))))
theorem dX10_worthBy_158 : decode cX10_worthBy 158 = .ok (.iaload, 1) := zk_of (zk_r (zk_l (zk_l (zk_l (zk_r zdX10_worthBy_200)))))
theorem dX10_worthBy_159 : decode cX10_worthBy 159 = .ok (.ifCond .ne 7, 3) := zk_of (zk_l (zk_r (zk_l (zk_l (zk_r zdX10_worthBy_200)))))
theorem dX10_worthBy_166 : decode cX10_worthBy 166 = .ok (.iconst 0, 1) := zk_of (zk_r (zk_r (zk_l (zk_l (zk_r zdX10_worthBy_200)))))
theorem dX10_worthBy_162 : decode cX10_worthBy 162 = .ok (.iconst 1, 1) := zk_of (zk_l (zk_l (zk_r (zk_l (zk_r zdX10_worthBy_200)))))
theorem dX10_worthBy_163 : decode cX10_worthBy 163 = .ok (.goto 4, 3) := zk_of (zk_r (zk_l (zk_r (zk_l (zk_r zdX10_worthBy_200)))))
theorem dX10_worthBy_140 : decode cX10_worthBy 140 = .ok (.aload_n 2, 1) := zk_of (zk_l (zk_r (zk_r (zk_l (zk_r zdX10_worthBy_200)))))
theorem dX10_worthBy_141 : decode cX10_worthBy 141 = .ok (.iload_n 3, 1) := zk_of (zk_r (zk_r (zk_r (zk_l (zk_r zdX10_worthBy_200)))))
theorem dX10_worthBy_142 : decode cX10_worthBy 142 = .ok (.iconst 1, 1) := zk_of (zk_l (zk_l (zk_l (zk_r (zk_r zdX10_worthBy_200)))))
theorem dX10_worthBy_143 : decode cX10_worthBy 143 = .ok (.isub, 1) := zk_of (zk_r (zk_l (zk_l (zk_r (zk_r zdX10_worthBy_200)))))
theorem dX10_worthBy_144 : decode cX10_worthBy 144 = .ok (.iaload, 1) := zk_of (zk_l (zk_r (zk_l (zk_r (zk_r zdX10_worthBy_200)))))
theorem dX10_worthBy_145 : decode cX10_worthBy 145 = .ok (.ireturn, 1) := zk_of (zk_r (zk_r (zk_l (zk_r (zk_r zdX10_worthBy_200)))))
theorem dX10_worthBy_131 : decode cX10_worthBy 131 = .ok (.iconst 0, 1) := zk_of (zk_l (zk_l (zk_r (zk_r (zk_r zdX10_worthBy_200)))))
theorem dX10_worthBy_132 : decode cX10_worthBy 132 = .ok (.ireturn, 1) := zk_of (zk_r (zk_l (zk_r (zk_r (zk_r zdX10_worthBy_200)))))
theorem dX10_worthBy_48 : decode cX10_worthBy 48 = .ok (.iload 6, 2) := zk_of (zk_l (zk_r (zk_r (zk_r (zk_r zdX10_worthBy_200)))))
theorem dX10_worthBy_50 : decode cX10_worthBy 50 = .ok (.bipush 59, 2) := zk_of (zk_r (zk_r (zk_r (zk_r (zk_r zdX10_worthBy_200)))))
theorem zdX10_worthBy_52 : (and (and (and (and (zk cX10_worthBy 52 (.if_icmp .eq 7) 3) (zk cX10_worthBy 59 (.iconst 0) 1)) (zk cX10_worthBy 55 (.iconst 1) 1)) (and (zk cX10_worthBy 56 (.goto 4) 3) (zk cX10_worthBy 0 (.iconst 0) 1))) (and (and (and (zk cX10_worthBy 1 (.istore_n 3) 1) (zk cX10_worthBy 2 (.iconst 0) 1)) (zk cX10_worthBy 3 (.istore 4) 2)) (and (zk cX10_worthBy 5 (.iconst 0) 1) (zk cX10_worthBy 6 (.istore 5) 2)))) = true := by decide +kernel
theorem dX10_worthBy_52 : decode cX10_worthBy 52 = .ok (.if_icmp .eq 7, 3) := zk_of (zk_l (zk_l (zk_l (zk_l zdX10_worthBy_52))))
theorem dX10_worthBy_59 : decode cX10_worthBy 59 = .ok (.iconst 0, 1) := zk_of (zk_r (zk_l (zk_l (zk_l zdX10_worthBy_52))))
theorem dX10_worthBy_55 : decode cX10_worthBy 55 = .ok (.iconst 1, 1) := zk_of (zk_r (zk_l (zk_l zdX10_worthBy_52)))
theorem dX10_worthBy_56 : decode cX10_worthBy 56 = .ok (.goto 4, 3) := zk_of (zk_l (zk_r (zk_l zdX10_worthBy_52)))
theorem dX10_worthBy_0 : decode cX10_worthBy 0 = .ok (.iconst 0, 1) := zk_of (zk_r (zk_r (zk_l zdX10_worthBy_52)))
theorem dX10_worthBy_1 : decode cX10_worthBy 1 = .ok (.istore_n 3, 1) := zk_of (zk_l (zk_l (zk_l (zk_r zdX10_worthBy_52))))
theorem dX10_worthBy_2 : decode cX10_worthBy 2 = .ok (.iconst 0, 1) := zk_of (zk_r (zk_l (zk_l (zk_r zdX10_worthBy_52))))
theorem dX10_worthBy_3 : decode cX10_worthBy 3 = .ok (.istore 4, 2) := zk_of (zk_r (zk_l (zk_r zdX10_worthBy_52)))
theorem dX10_worthBy_5 : decode cX10_worthBy 5 = .ok (.iconst 0, 1) := zk_of (zk_l (zk_r (zk_r zdX10_worthBy_52)))
theorem dX10_worthBy_6 : decode cX10_worthBy 6 = .ok (.istore 5, 2) := zk_of (zk_r (zk_r (zk_r zdX10_worthBy_52)))
/-- HissHorn$Text.worthBy([I[I)I of cell T -/
def rmX10_worthBy_T_a16_a17 : Room := { frames := 2, cells := 0, slots := 0, locals := 38 }
theorem hX10_worthBy_T_a16_a17_X10 : ∀ w ∈ u_ws RX10 TX10 1, w ∈ wsX10_worthBy := fun w h => (List.mem_cons_of_mem _ (List.mem_append_right _ h))
theorem mX10_worthBy_T_a16_a17_1 : Cond.fieldLink RX10 7 "HissHorn$Text" "code" "[I" ∈ wsX10_worthBy := (List.mem_cons_of_mem _ (List.mem_append_left _ (List.mem_of_getElem? (i := 0) rfl)))
def GX10_worthBy_T_a16_a17_227 (k8 : Nat → Int32 → Int32 → Int32 → SX → Option (Int32 × SX)) (z0 : Nat) (z3 : Int32) (z4 : Int32) (z5 : Int32) (u : SX) : Option (Int32 × SX) := (k8 z0 z3 z4 (z5 + 1) u)
def GX10_worthBy_T_a16_a17_119 (k8 : Nat → Int32 → Int32 → Int32 → SX → Option (Int32 × SX)) (z0 : Nat) (z3 : Int32) (z4 : Int32) (z5 : Int32) (y0 : Int32) (y1 : Int32) (u : SX) : Option (Int32 × SX) := (gd (inb y1 120) (lt (sA u 17 (upd (u.2.1 17) y1.toNatClampNeg y0)) fun u15 => (GX10_worthBy_T_a16_a17_227 k8 z0 (z3 + 1) z4 z5 u15)))
def GX10_worthBy_T_a16_a17_101 (k8 : Nat → Int32 → Int32 → Int32 → SX → Option (Int32 × SX)) (z0 : Nat) (z3 : Int32) (z4 : Int32) (z5 : Int32) (z6 : Int32) (z7 : Int32) (u : SX) : Option (Int32 × SX) := (if z6 = 48 then (GX10_worthBy_T_a16_a17_119 k8 z0 z3 z4 z5 z7 z3 u) else (gd (inb z7 6) (GX10_worthBy_T_a16_a17_119 k8 z0 z3 z4 z5 (u.2.1 16 z7.toNatClampNeg) z3 u)))
def GX10_worthBy_T_a16_a17_79 (k8 : Nat → Int32 → Int32 → Int32 → SX → Option (Int32 × SX)) (z0 : Nat) (z3 : Int32) (z4 : Int32) (z5 : Int32) (z6 : Int32) (z7 : Int32) (u : SX) : Option (Int32 × SX) := (if 120 ≤ z3 then (some (0, u)) else (if z6 = 121 then (if z7 < 6 then (GX10_worthBy_T_a16_a17_101 k8 z0 z3 z4 z5 z6 z7 u) else (some (0, u))) else (GX10_worthBy_T_a16_a17_101 k8 z0 z3 z4 z5 z6 z7 u)))
def GX10_worthBy_T_a16_a17_167 (k8 : Nat → Int32 → Int32 → Int32 → SX → Option (Int32 × SX)) (z0 : Nat) (z3 : Int32) (z5 : Int32) (y0 : Int32) (u : SX) : Option (Int32 × SX) := (GX10_worthBy_T_a16_a17_227 k8 z0 z3 y0 z5 u)
def GX10_worthBy_T_a16_a17_60 (k8 : Nat → Int32 → Int32 → Int32 → SX → Option (Int32 × SX)) (z0 : Nat) (z3 : Int32) (z5 : Int32) (y0 : Int32) (u : SX) : Option (Int32 × SX) := (GX10_worthBy_T_a16_a17_227 k8 z0 z3 y0 z5 u)
def LX10_worthBy_T_a16_a17_8  : Nat → Nat → Int32 → Int32 → Int32 → SX → Option (Int32 × SX)
  | 0, _, _, _, _, _ => none
  | n + 1, z0, z3, z4, z5, u => (gd (decide (z0 < tN u)) (gd (decide (z0 < tN u)) (if (Int32.ofNat (tL u z0)) ≤ z5 then (some (0, u)) else (gd (decide (z0 < tN u)) (gd (decide (z0 < tN u)) (gd (inb z5 (tL u z0)) (lt ((tC u z0 z5.toNatClampNeg) &&& 255) fun v6 => (gd (decide (z0 < tN u)) (gd (decide (z0 < tN u)) (gd (inb z5 (tL u z0)) (lt ((tC u z0 z5.toNatClampNeg) >>> (8 &&& 31)) fun v11 => (if z4 = 0 then (if v6 = 48 then (GX10_worthBy_T_a16_a17_79 (LX10_worthBy_T_a16_a17_8 n) z0 z3 z4 z5 v6 v11 u) else (if v6 = 121 then (GX10_worthBy_T_a16_a17_79 (LX10_worthBy_T_a16_a17_8 n) z0 z3 z4 z5 v6 v11 u) else (if 1 ≤ z3 then (if v6 = 59 then (gd (inb (z3 - 1) 120) (some (u.2.1 17 (z3 - 1).toNatClampNeg, u))) else (if v6 = 63 then (gd (inb (z3 + (-1)) 120) (if (u.2.1 17 (z3 + (-1)).toNatClampNeg) = 0 then (GX10_worthBy_T_a16_a17_167 (LX10_worthBy_T_a16_a17_8 n) z0 (z3 + (-1)) z5 1 u) else (GX10_worthBy_T_a16_a17_167 (LX10_worthBy_T_a16_a17_8 n) z0 (z3 + (-1)) z5 0 u))) else (if v6 = 33 then (gd (inb (z3 - 1) 120) (gd (inb (z3 - 1) 120) (lt (sA u 17 (upd (u.2.1 17) (z3 - 1).toNatClampNeg (1 - (u.2.1 17 (z3 - 1).toNatClampNeg)))) fun u30 => (GX10_worthBy_T_a16_a17_227 (LX10_worthBy_T_a16_a17_8 n) z0 z3 z4 z5 u30)))) else (if 2 ≤ z3 then (gd (inb ((z3 + (-1)) - 1) 120) (gd (inb (z3 + (-1)) 120) ((fX10_join v6 ((u.2.1 17 ((z3 + (-1)) - 1).toNatClampNeg).toInt64) ((u.2.1 17 (z3 + (-1)).toNatClampNeg).toInt64)).bind fun r19 => ((fX10_bounded r19).bind fun r22 => (gd (inb ((z3 + (-1)) - 1) 120) (lt (sA u 17 (upd (u.2.1 17) ((z3 + (-1)) - 1).toNatClampNeg r22)) fun u26 => (GX10_worthBy_T_a16_a17_227 (LX10_worthBy_T_a16_a17_8 n) z0 (z3 + (-1)) z4 z5 u26))))))) else (some (0, u)))))) else (some (0, u))))) else (if v6 = 59 then (GX10_worthBy_T_a16_a17_60 (LX10_worthBy_T_a16_a17_8 n) z0 z3 z5 0 u) else (GX10_worthBy_T_a16_a17_60 (LX10_worthBy_T_a16_a17_8 n) z0 z3 z5 1 u))))))))))))))
def fX10_worthBy_T_a16_a17 (x0 : Nat) (u : SX) : Option (Int32 × SX) := (LX10_worthBy_T_a16_a17_8  5000 x0 0 0 0 u)
set_option maxHeartbeats 4000000 in
set_option maxRecDepth 100000 in
theorem wGX10_worthBy_T_a16_a17_227 {p : Program} {l : Launch} {e : Env} {s : State} {m : MethodId} {args : Array Value} {below : List Frame} {meth : Method} {c : Code} {D : va_G} {cy : Nat → ClassId} {ad st : Nat → Nat} (C : Cx RX10 cX10_worthBy 8 (some .int) wsX10_worthBy p s m args meth c) (hK : Ky D [(cy 0, .int), (cy 1, .long), (cy 2, .boolean), (cy 3, .byte), (cy 4, .object "HissHorn$Text")] st s) (hJ : JX ad st) {r : Int32} {u' : SX} {k8 : Nat → Int32 → Int32 → Int32 → SX → Option (Int32 × SX)} (hk8 : ∀ (z0 : Nat) (z3 : Int32) (z4 : Int32) (z5 : Int32) (u : SX) (H : Heap) (locs : List Loc) (ls : Array Slot), k8 z0 z3 z4 z5 u = some (r, u') → va_P D vwCl (VX cy ad st u) H → va_S (Ax (AX ad) s.heap.size) s.heap H locs → lv_has ls 8 [(0, .ref (ad (tA z0))), (1, .ref (ad 16)), (2, .ref (ad 17)), (3, .int z3), (4, .int z4), (5, .int z5)] → W p l e rmX10_worthBy_T_a16_a17 s m args below meth c H locs 0 0 (MQ below (Qi D (VX cy ad st) (AX ad) s.heap.size r u') args s 0 0 (Ax (AX ad) s.heap.size)) (F0 m 8 ls [])) (z0 : Nat) (z3 : Int32) (z4 : Int32) (z5 : Int32) (u : SX) (H : Heap) (locs : List Loc) (ls : Array Slot) (h : GX10_worthBy_T_a16_a17_227 k8 z0 z3 z4 z5 u = some (r, u')) (hP : va_P D vwCl (VX cy ad st u) H) (hS : va_S (Ax (AX ad) s.heap.size) s.heap H locs) (hl : lv_has ls 8 [(0, .ref (ad (tA z0))), (1, .ref (ad 16)), (2, .ref (ad 17)), (3, .int z3), (4, .int z4), (5, .int z5)]) : W p l e rmX10_worthBy_T_a16_a17 s m args below meth c H locs 0 0 (MQ below (Qi D (VX cy ad st) (AX ad) s.heap.size r u') args s 0 0 (Ax (AX ad) s.heap.size)) (F0 m 227 ls []) := by
  unfold GX10_worthBy_T_a16_a17_227 at h
  refine lv_iinc (v := z5 + 1) (lv' := [(5, .int (z5 + 1)), (0, .ref (ad (tA z0))), (1, .ref (ad 16)), (2, .ref (ad 17)), (3, .int z3), (4, .int z4)]) C.1 C.2.1 dX10_worthBy_227 hl (k := 5) rfl rfl (by decide) rfl (fun ls hl => ?_)
  replace hl := lv_sub (l' := [(0, .ref (ad (tA z0))), (1, .ref (ad 16)), (2, .ref (ad 17)), (3, .int z3), (4, .int z4), (5, .int (z5 + 1))]) hl [1, 2, 3, 4, 5, 0] rfl
  refine lv_goto (tgt := 8) C.1 C.2.1 dX10_worthBy_230 (by decide) ?_
  exact hk8 _ _ _ _ _ _ _ _ h hP hS hl
set_option maxHeartbeats 4000000 in
set_option maxRecDepth 100000 in
theorem wGX10_worthBy_T_a16_a17_119 {p : Program} {l : Launch} {e : Env} {s : State} {m : MethodId} {args : Array Value} {below : List Frame} {meth : Method} {c : Code} {D : va_G} {cy : Nat → ClassId} {ad st : Nat → Nat} (C : Cx RX10 cX10_worthBy 8 (some .int) wsX10_worthBy p s m args meth c) (hK : Ky D [(cy 0, .int), (cy 1, .long), (cy 2, .boolean), (cy 3, .byte), (cy 4, .object "HissHorn$Text")] st s) (hJ : JX ad st) {r : Int32} {u' : SX} {k8 : Nat → Int32 → Int32 → Int32 → SX → Option (Int32 × SX)} (hk8 : ∀ (z0 : Nat) (z3 : Int32) (z4 : Int32) (z5 : Int32) (u : SX) (H : Heap) (locs : List Loc) (ls : Array Slot), k8 z0 z3 z4 z5 u = some (r, u') → va_P D vwCl (VX cy ad st u) H → va_S (Ax (AX ad) s.heap.size) s.heap H locs → lv_has ls 8 [(0, .ref (ad (tA z0))), (1, .ref (ad 16)), (2, .ref (ad 17)), (3, .int z3), (4, .int z4), (5, .int z5)] → W p l e rmX10_worthBy_T_a16_a17 s m args below meth c H locs 0 0 (MQ below (Qi D (VX cy ad st) (AX ad) s.heap.size r u') args s 0 0 (Ax (AX ad) s.heap.size)) (F0 m 8 ls [])) (z0 : Nat) (z3 : Int32) (z4 : Int32) (z5 : Int32) (y0 : Int32) (y1 : Int32) (u : SX) (H : Heap) (locs : List Loc) (ls : Array Slot) (h : GX10_worthBy_T_a16_a17_119 k8 z0 z3 z4 z5 y0 y1 u = some (r, u')) (hP : va_P D vwCl (VX cy ad st u) H) (hS : va_S (Ax (AX ad) s.heap.size) s.heap H locs) (hl : lv_has ls 8 [(0, .ref (ad (tA z0))), (1, .ref (ad 16)), (2, .ref (ad 17)), (3, .int z3), (4, .int z4), (5, .int z5)]) : W p l e rmX10_worthBy_T_a16_a17 s m args below meth c H locs 0 0 (MQ below (Qi D (VX cy ad st) (AX ad) s.heap.size r u') args s 0 0 (Ax (AX ad) s.heap.size)) (F0 m 119 ls [.int y0, .int y1, .ref (ad 17)]) := by
  unfold GX10_worthBy_T_a16_a17_119 at h
  obtain ⟨hg14, h⟩ := gd_some h
  refine tX_17 C hK hP hJ hS hg14 dX10_worthBy_119 (fun H locs hP hS => ?_)
  obtain ⟨u15, hu16, h⟩ := lt_some h
  rw [← hu16] at hP
  refine lv_iinc (v := z3 + 1) (lv' := [(3, .int (z3 + 1)), (0, .ref (ad (tA z0))), (1, .ref (ad 16)), (2, .ref (ad 17)), (4, .int z4), (5, .int z5)]) C.1 C.2.1 dX10_worthBy_120 hl (k := 3) rfl rfl (by decide) rfl (fun ls hl => ?_)
  replace hl := lv_sub (l' := [(0, .ref (ad (tA z0))), (1, .ref (ad 16)), (2, .ref (ad 17)), (3, .int (z3 + 1)), (4, .int z4), (5, .int z5)]) hl [1, 2, 3, 0, 4, 5] rfl
  refine lv_goto (tgt := 227) C.1 C.2.1 dX10_worthBy_123 (by decide) ?_
  exact wGX10_worthBy_T_a16_a17_227 C hK hJ hk8 _ _ _ _ _ _ _ _ h hP hS hl
set_option maxHeartbeats 4000000 in
set_option maxRecDepth 100000 in
theorem wGX10_worthBy_T_a16_a17_101 {p : Program} {l : Launch} {e : Env} {s : State} {m : MethodId} {args : Array Value} {below : List Frame} {meth : Method} {c : Code} {D : va_G} {cy : Nat → ClassId} {ad st : Nat → Nat} (C : Cx RX10 cX10_worthBy 8 (some .int) wsX10_worthBy p s m args meth c) (hK : Ky D [(cy 0, .int), (cy 1, .long), (cy 2, .boolean), (cy 3, .byte), (cy 4, .object "HissHorn$Text")] st s) (hJ : JX ad st) {r : Int32} {u' : SX} {k8 : Nat → Int32 → Int32 → Int32 → SX → Option (Int32 × SX)} (hk8 : ∀ (z0 : Nat) (z3 : Int32) (z4 : Int32) (z5 : Int32) (u : SX) (H : Heap) (locs : List Loc) (ls : Array Slot), k8 z0 z3 z4 z5 u = some (r, u') → va_P D vwCl (VX cy ad st u) H → va_S (Ax (AX ad) s.heap.size) s.heap H locs → lv_has ls 8 [(0, .ref (ad (tA z0))), (1, .ref (ad 16)), (2, .ref (ad 17)), (3, .int z3), (4, .int z4), (5, .int z5)] → W p l e rmX10_worthBy_T_a16_a17 s m args below meth c H locs 0 0 (MQ below (Qi D (VX cy ad st) (AX ad) s.heap.size r u') args s 0 0 (Ax (AX ad) s.heap.size)) (F0 m 8 ls [])) (z0 : Nat) (z3 : Int32) (z4 : Int32) (z5 : Int32) (z6 : Int32) (z7 : Int32) (u : SX) (H : Heap) (locs : List Loc) (ls : Array Slot) (h : GX10_worthBy_T_a16_a17_101 k8 z0 z3 z4 z5 z6 z7 u = some (r, u')) (hP : va_P D vwCl (VX cy ad st u) H) (hS : va_S (Ax (AX ad) s.heap.size) s.heap H locs) (hl : lv_has ls 8 [(0, .ref (ad (tA z0))), (1, .ref (ad 16)), (2, .ref (ad 17)), (3, .int z3), (4, .int z4), (5, .int z5), (6, .int z6), (7, .int z7)]) : W p l e rmX10_worthBy_T_a16_a17 s m args below meth c H locs 0 0 (MQ below (Qi D (VX cy ad st) (AX ad) s.heap.size r u') args s 0 0 (Ax (AX ad) s.heap.size)) (F0 m 101 ls []) := by
  unfold GX10_worthBy_T_a16_a17_101 at h
  refine lv_aload_n C.1 C.2.1 dX10_worthBy_101 rfl (lv_at hl 2 rfl) ?_
  refine lv_iload_n C.1 C.2.1 dX10_worthBy_102 rfl (lv_at hl 3 rfl) ?_
  refine lv_iload C.1 C.2.1 dX10_worthBy_103 (lv_at hl 6 rfl) ?_
  refine lv_bipush (v := 48) C.1 C.2.1 dX10_worthBy_105 (by decide) ?_
  refine lv_icmp_ne (tgt := 115) C.1 C.2.1 dX10_worthBy_107 (by decide) (fun c107 => ?_) (fun c107 => ?_)
  · rw [if_neg c107] at h
    refine lv_aload_n C.1 C.2.1 dX10_worthBy_115 rfl (lv_at hl 1 rfl) ?_
    refine lv_iload C.1 C.2.1 dX10_worthBy_116 (lv_at hl 7 rfl) ?_
    obtain ⟨hg13, h⟩ := gd_some h
    refine lX_16 C hK hP hg13 dX10_worthBy_118 ?_
    exact wGX10_worthBy_T_a16_a17_119 C hK hJ hk8 _ _ _ _ _ _ _ _ _ _ h hP hS (lv_sub hl [0, 1, 2, 3, 4, 5] rfl)
  · rw [if_pos c107] at h
    refine lv_iload C.1 C.2.1 dX10_worthBy_110 (lv_at hl 7 rfl) ?_
    refine lv_goto (tgt := 119) C.1 C.2.1 dX10_worthBy_112 (by decide) ?_
    exact wGX10_worthBy_T_a16_a17_119 C hK hJ hk8 _ _ _ _ _ _ _ _ _ _ h hP hS (lv_sub hl [0, 1, 2, 3, 4, 5] rfl)
set_option maxHeartbeats 4000000 in
set_option maxRecDepth 100000 in
theorem wGX10_worthBy_T_a16_a17_79 {p : Program} {l : Launch} {e : Env} {s : State} {m : MethodId} {args : Array Value} {below : List Frame} {meth : Method} {c : Code} {D : va_G} {cy : Nat → ClassId} {ad st : Nat → Nat} (C : Cx RX10 cX10_worthBy 8 (some .int) wsX10_worthBy p s m args meth c) (hK : Ky D [(cy 0, .int), (cy 1, .long), (cy 2, .boolean), (cy 3, .byte), (cy 4, .object "HissHorn$Text")] st s) (hJ : JX ad st) {r : Int32} {u' : SX} {k8 : Nat → Int32 → Int32 → Int32 → SX → Option (Int32 × SX)} (hk8 : ∀ (z0 : Nat) (z3 : Int32) (z4 : Int32) (z5 : Int32) (u : SX) (H : Heap) (locs : List Loc) (ls : Array Slot), k8 z0 z3 z4 z5 u = some (r, u') → va_P D vwCl (VX cy ad st u) H → va_S (Ax (AX ad) s.heap.size) s.heap H locs → lv_has ls 8 [(0, .ref (ad (tA z0))), (1, .ref (ad 16)), (2, .ref (ad 17)), (3, .int z3), (4, .int z4), (5, .int z5)] → W p l e rmX10_worthBy_T_a16_a17 s m args below meth c H locs 0 0 (MQ below (Qi D (VX cy ad st) (AX ad) s.heap.size r u') args s 0 0 (Ax (AX ad) s.heap.size)) (F0 m 8 ls [])) (z0 : Nat) (z3 : Int32) (z4 : Int32) (z5 : Int32) (z6 : Int32) (z7 : Int32) (u : SX) (H : Heap) (locs : List Loc) (ls : Array Slot) (h : GX10_worthBy_T_a16_a17_79 k8 z0 z3 z4 z5 z6 z7 u = some (r, u')) (hP : va_P D vwCl (VX cy ad st u) H) (hS : va_S (Ax (AX ad) s.heap.size) s.heap H locs) (hl : lv_has ls 8 [(0, .ref (ad (tA z0))), (1, .ref (ad 16)), (2, .ref (ad 17)), (3, .int z3), (4, .int z4), (5, .int z5), (6, .int z6), (7, .int z7)]) : W p l e rmX10_worthBy_T_a16_a17 s m args below meth c H locs 0 0 (MQ below (Qi D (VX cy ad st) (AX ad) s.heap.size r u') args s 0 0 (Ax (AX ad) s.heap.size)) (F0 m 79 ls []) := by
  unfold GX10_worthBy_T_a16_a17_79 at h
  refine lv_iload_n C.1 C.2.1 dX10_worthBy_79 rfl (lv_at hl 3 rfl) ?_
  refine lv_aload_n C.1 C.2.1 dX10_worthBy_80 rfl (lv_at hl 2 rfl) ?_
  refine va_alen (v := 120) C.1 C.2.1 hK.1 hP 17 0 rfl rfl rfl dX10_worthBy_81 ?_
  refine lv_icmp_ge (tgt := 99) C.1 C.2.1 dX10_worthBy_82 (by decide) (fun c82 => ?_) (fun c82 => ?_)
  · rw [if_pos c82] at h
    refine lv_iconst (v := 0) C.1 C.2.1 dX10_worthBy_99 (by decide) ?_
    cases h
    exact rt_i C hP hS dX10_worthBy_100
  · rw [if_neg c82] at h
    refine lv_iload C.1 C.2.1 dX10_worthBy_85 (lv_at hl 6 rfl) ?_
    refine lv_bipush (v := 121) C.1 C.2.1 dX10_worthBy_87 (by decide) ?_
    refine lv_icmp_ne (tgt := 101) C.1 C.2.1 dX10_worthBy_89 (by decide) (fun c89 => ?_) (fun c89 => ?_)
    · rw [if_neg c89] at h
      exact wGX10_worthBy_T_a16_a17_101 C hK hJ hk8 _ _ _ _ _ _ _ _ _ _ h hP hS hl
    · rw [if_pos c89] at h
      refine lv_iload C.1 C.2.1 dX10_worthBy_92 (lv_at hl 7 rfl) ?_
      refine lv_aload_n C.1 C.2.1 dX10_worthBy_94 rfl (lv_at hl 1 rfl) ?_
      refine va_alen (v := 6) C.1 C.2.1 hK.1 hP 16 0 rfl rfl rfl dX10_worthBy_95 ?_
      refine lv_icmp_lt (tgt := 101) C.1 C.2.1 dX10_worthBy_96 (by decide) (fun c96 => ?_) (fun c96 => ?_)
      · rw [if_pos c96] at h
        exact wGX10_worthBy_T_a16_a17_101 C hK hJ hk8 _ _ _ _ _ _ _ _ _ _ h hP hS hl
      · rw [if_neg c96] at h
        refine lv_iconst (v := 0) C.1 C.2.1 dX10_worthBy_99 (by decide) ?_
        cases h
        exact rt_i C hP hS dX10_worthBy_100
set_option maxHeartbeats 4000000 in
set_option maxRecDepth 100000 in
theorem wGX10_worthBy_T_a16_a17_167 {p : Program} {l : Launch} {e : Env} {s : State} {m : MethodId} {args : Array Value} {below : List Frame} {meth : Method} {c : Code} {D : va_G} {cy : Nat → ClassId} {ad st : Nat → Nat} (C : Cx RX10 cX10_worthBy 8 (some .int) wsX10_worthBy p s m args meth c) (hK : Ky D [(cy 0, .int), (cy 1, .long), (cy 2, .boolean), (cy 3, .byte), (cy 4, .object "HissHorn$Text")] st s) (hJ : JX ad st) {r : Int32} {u' : SX} {k8 : Nat → Int32 → Int32 → Int32 → SX → Option (Int32 × SX)} (hk8 : ∀ (z0 : Nat) (z3 : Int32) (z4 : Int32) (z5 : Int32) (u : SX) (H : Heap) (locs : List Loc) (ls : Array Slot), k8 z0 z3 z4 z5 u = some (r, u') → va_P D vwCl (VX cy ad st u) H → va_S (Ax (AX ad) s.heap.size) s.heap H locs → lv_has ls 8 [(0, .ref (ad (tA z0))), (1, .ref (ad 16)), (2, .ref (ad 17)), (3, .int z3), (4, .int z4), (5, .int z5)] → W p l e rmX10_worthBy_T_a16_a17 s m args below meth c H locs 0 0 (MQ below (Qi D (VX cy ad st) (AX ad) s.heap.size r u') args s 0 0 (Ax (AX ad) s.heap.size)) (F0 m 8 ls [])) (z0 : Nat) (z3 : Int32) (z5 : Int32) (y0 : Int32) (u : SX) (H : Heap) (locs : List Loc) (ls : Array Slot) (h : GX10_worthBy_T_a16_a17_167 k8 z0 z3 z5 y0 u = some (r, u')) (hP : va_P D vwCl (VX cy ad st u) H) (hS : va_S (Ax (AX ad) s.heap.size) s.heap H locs) (hl : lv_has ls 8 [(0, .ref (ad (tA z0))), (1, .ref (ad 16)), (2, .ref (ad 17)), (3, .int z3), (5, .int z5)]) : W p l e rmX10_worthBy_T_a16_a17 s m args below meth c H locs 0 0 (MQ below (Qi D (VX cy ad st) (AX ad) s.heap.size r u') args s 0 0 (Ax (AX ad) s.heap.size)) (F0 m 167 ls [.int y0]) := by
  unfold GX10_worthBy_T_a16_a17_167 at h
  refine lv_istore (lv' := [(4, .int y0), (0, .ref (ad (tA z0))), (1, .ref (ad 16)), (2, .ref (ad 17)), (3, .int z3), (5, .int z5)]) C.1 C.2.1 dX10_worthBy_167 hl (by decide) rfl (fun ls hl => ?_)
  replace hl := lv_sub (l' := [(0, .ref (ad (tA z0))), (1, .ref (ad 16)), (2, .ref (ad 17)), (3, .int z3), (4, .int y0), (5, .int z5)]) hl [1, 2, 3, 4, 0, 5] rfl
  refine lv_goto (tgt := 227) C.1 C.2.1 dX10_worthBy_169 (by decide) ?_
  exact wGX10_worthBy_T_a16_a17_227 C hK hJ hk8 _ _ _ _ _ _ _ _ h hP hS hl
set_option maxHeartbeats 4000000 in
set_option maxRecDepth 100000 in
theorem wGX10_worthBy_T_a16_a17_60 {p : Program} {l : Launch} {e : Env} {s : State} {m : MethodId} {args : Array Value} {below : List Frame} {meth : Method} {c : Code} {D : va_G} {cy : Nat → ClassId} {ad st : Nat → Nat} (C : Cx RX10 cX10_worthBy 8 (some .int) wsX10_worthBy p s m args meth c) (hK : Ky D [(cy 0, .int), (cy 1, .long), (cy 2, .boolean), (cy 3, .byte), (cy 4, .object "HissHorn$Text")] st s) (hJ : JX ad st) {r : Int32} {u' : SX} {k8 : Nat → Int32 → Int32 → Int32 → SX → Option (Int32 × SX)} (hk8 : ∀ (z0 : Nat) (z3 : Int32) (z4 : Int32) (z5 : Int32) (u : SX) (H : Heap) (locs : List Loc) (ls : Array Slot), k8 z0 z3 z4 z5 u = some (r, u') → va_P D vwCl (VX cy ad st u) H → va_S (Ax (AX ad) s.heap.size) s.heap H locs → lv_has ls 8 [(0, .ref (ad (tA z0))), (1, .ref (ad 16)), (2, .ref (ad 17)), (3, .int z3), (4, .int z4), (5, .int z5)] → W p l e rmX10_worthBy_T_a16_a17 s m args below meth c H locs 0 0 (MQ below (Qi D (VX cy ad st) (AX ad) s.heap.size r u') args s 0 0 (Ax (AX ad) s.heap.size)) (F0 m 8 ls [])) (z0 : Nat) (z3 : Int32) (z5 : Int32) (y0 : Int32) (u : SX) (H : Heap) (locs : List Loc) (ls : Array Slot) (h : GX10_worthBy_T_a16_a17_60 k8 z0 z3 z5 y0 u = some (r, u')) (hP : va_P D vwCl (VX cy ad st u) H) (hS : va_S (Ax (AX ad) s.heap.size) s.heap H locs) (hl : lv_has ls 8 [(0, .ref (ad (tA z0))), (1, .ref (ad 16)), (2, .ref (ad 17)), (3, .int z3), (5, .int z5)]) : W p l e rmX10_worthBy_T_a16_a17 s m args below meth c H locs 0 0 (MQ below (Qi D (VX cy ad st) (AX ad) s.heap.size r u') args s 0 0 (Ax (AX ad) s.heap.size)) (F0 m 60 ls [.int y0]) := by
  unfold GX10_worthBy_T_a16_a17_60 at h
  refine lv_istore (lv' := [(4, .int y0), (0, .ref (ad (tA z0))), (1, .ref (ad 16)), (2, .ref (ad 17)), (3, .int z3), (5, .int z5)]) C.1 C.2.1 dX10_worthBy_60 hl (by decide) rfl (fun ls hl => ?_)
  replace hl := lv_sub (l' := [(0, .ref (ad (tA z0))), (1, .ref (ad 16)), (2, .ref (ad 17)), (3, .int z3), (4, .int y0), (5, .int z5)]) hl [1, 2, 3, 4, 0, 5] rfl
  refine lv_goto (tgt := 227) C.1 C.2.1 dX10_worthBy_62 (by decide) ?_
  exact wGX10_worthBy_T_a16_a17_227 C hK hJ hk8 _ _ _ _ _ _ _ _ h hP hS hl
set_option maxHeartbeats 4000000 in
set_option maxRecDepth 100000 in
theorem wLX10_worthBy_T_a16_a17_8 {p : Program} {l : Launch} {e : Env} {s : State} {m : MethodId} {args : Array Value} {below : List Frame} {meth : Method} {c : Code} {D : va_G} {cy : Nat → ClassId} {ad st : Nat → Nat} (C : Cx RX10 cX10_worthBy 8 (some .int) wsX10_worthBy p s m args meth c) (hK : Ky D [(cy 0, .int), (cy 1, .long), (cy 2, .boolean), (cy 3, .byte), (cy 4, .object "HissHorn$Text")] st s) (hJ : JX ad st) {r : Int32} {u' : SX}   : ∀ (n : Nat) (z0 : Nat) (z3 : Int32) (z4 : Int32) (z5 : Int32) (u : SX) (H : Heap) (locs : List Loc) (ls : Array Slot), LX10_worthBy_T_a16_a17_8  n z0 z3 z4 z5 u = some (r, u') → va_P D vwCl (VX cy ad st u) H → va_S (Ax (AX ad) s.heap.size) s.heap H locs → lv_has ls 8 [(0, .ref (ad (tA z0))), (1, .ref (ad 16)), (2, .ref (ad 17)), (3, .int z3), (4, .int z4), (5, .int z5)] → W p l e rmX10_worthBy_T_a16_a17 s m args below meth c H locs 0 0 (MQ below (Qi D (VX cy ad st) (AX ad) s.heap.size r u') args s 0 0 (Ax (AX ad) s.heap.size)) (F0 m 8 ls []) := by
  intro n
  induction n with
  | zero =>
    intro z0 z3 z4 z5 u H locs ls h
    exact absurd h (by intro q; cases q)
  | succ n ih =>
    intro z0 z3 z4 z5 u H locs ls h hP hS hl
    rw [LX10_worthBy_T_a16_a17_8] at h
    refine lv_iload C.1 C.2.1 dX10_worthBy_8 (lv_at hl 5 rfl) ?_
    refine lv_aload_n C.1 C.2.1 dX10_worthBy_10 rfl (lv_at hl 0 rfl) ?_
    obtain ⟨hg1, h⟩ := gd_some h
    refine gX_T C hX10_worthBy_T_a16_a17_X10 hK hP (of_decide_eq_true hg1) mX10_worthBy_T_a16_a17_1 dX10_worthBy_11 ?_
    obtain ⟨hg2, h⟩ := gd_some h
    refine nX_T C hK hP (of_decide_eq_true hg2) dX10_worthBy_14 ?_
    refine lv_icmp_ge (tgt := 233) C.1 C.2.1 dX10_worthBy_15 (by decide) (fun c15 => ?_) (fun c15 => ?_)
    · rw [if_pos c15] at h
      refine lv_iconst (v := 0) C.1 C.2.1 dX10_worthBy_233 (by decide) ?_
      cases h
      exact rt_i C hP hS dX10_worthBy_234
    · rw [if_neg c15] at h
      refine lv_aload_n C.1 C.2.1 dX10_worthBy_18 rfl (lv_at hl 0 rfl) ?_
      obtain ⟨hg3, h⟩ := gd_some h
      refine gX_T C hX10_worthBy_T_a16_a17_X10 hK hP (of_decide_eq_true hg3) mX10_worthBy_T_a16_a17_1 dX10_worthBy_19 ?_
      refine lv_iload C.1 C.2.1 dX10_worthBy_22 (lv_at hl 5 rfl) ?_
      obtain ⟨hg4, h⟩ := gd_some h
      obtain ⟨hg5, h⟩ := gd_some h
      refine lX_T C hK hP (of_decide_eq_true hg4) hg5 dX10_worthBy_24 ?_
      refine lv_sipush (v := 255) C.1 C.2.1 dX10_worthBy_25 (by decide) ?_
      refine lv_iand C.1 C.2.1 dX10_worthBy_28 ?_
      refine lv_topi (fun v6 hv7 => ?_)
      replace h := lt_e hv7 h
      try dsimp only at h
      refine lv_istore (lv' := [(6, .int v6), (0, .ref (ad (tA z0))), (1, .ref (ad 16)), (2, .ref (ad 17)), (3, .int z3), (4, .int z4), (5, .int z5)]) C.1 C.2.1 dX10_worthBy_29 hl (by decide) rfl (fun ls hl => ?_)
      replace hl := lv_sub (l' := [(0, .ref (ad (tA z0))), (1, .ref (ad 16)), (2, .ref (ad 17)), (3, .int z3), (4, .int z4), (5, .int z5), (6, .int v6)]) hl [1, 2, 3, 4, 5, 6, 0] rfl
      refine lv_aload_n C.1 C.2.1 dX10_worthBy_31 rfl (lv_at hl 0 rfl) ?_
      obtain ⟨hg8, h⟩ := gd_some h
      refine gX_T C hX10_worthBy_T_a16_a17_X10 hK hP (of_decide_eq_true hg8) mX10_worthBy_T_a16_a17_1 dX10_worthBy_32 ?_
      refine lv_iload C.1 C.2.1 dX10_worthBy_35 (lv_at hl 5 rfl) ?_
      obtain ⟨hg9, h⟩ := gd_some h
      obtain ⟨hg10, h⟩ := gd_some h
      refine lX_T C hK hP (of_decide_eq_true hg9) hg10 dX10_worthBy_37 ?_
      refine lv_bipush (v := 8) C.1 C.2.1 dX10_worthBy_38 (by decide) ?_
      refine lv_ishr C.1 C.2.1 dX10_worthBy_40 ?_
      refine lv_topi (fun v11 hv12 => ?_)
      replace h := lt_e hv12 h
      try dsimp only at h
      refine lv_istore (lv' := [(7, .int v11), (0, .ref (ad (tA z0))), (1, .ref (ad 16)), (2, .ref (ad 17)), (3, .int z3), (4, .int z4), (5, .int z5), (6, .int v6)]) C.1 C.2.1 dX10_worthBy_41 hl (by decide) rfl (fun ls hl => ?_)
      replace hl := lv_sub (l' := [(0, .ref (ad (tA z0))), (1, .ref (ad 16)), (2, .ref (ad 17)), (3, .int z3), (4, .int z4), (5, .int z5), (6, .int v6), (7, .int v11)]) hl [1, 2, 3, 4, 5, 6, 7, 0] rfl
      refine lv_iload C.1 C.2.1 dX10_worthBy_43 (lv_at hl 4 rfl) ?_
      refine lv_if_eq (tgt := 65) C.1 C.2.1 dX10_worthBy_45 (by decide) (fun c45 => ?_) (fun c45 => ?_)
      · rw [if_pos c45] at h
        refine lv_iload C.1 C.2.1 dX10_worthBy_65 (lv_at hl 6 rfl) ?_
        refine lv_bipush (v := 48) C.1 C.2.1 dX10_worthBy_67 (by decide) ?_
        refine lv_icmp_eq (tgt := 79) C.1 C.2.1 dX10_worthBy_69 (by decide) (fun c69 => ?_) (fun c69 => ?_)
        · rw [if_pos c69] at h
          exact wGX10_worthBy_T_a16_a17_79 C hK hJ ih _ _ _ _ _ _ _ _ _ _ h hP hS hl
        · rw [if_neg c69] at h
          refine lv_iload C.1 C.2.1 dX10_worthBy_72 (lv_at hl 6 rfl) ?_
          refine lv_bipush (v := 121) C.1 C.2.1 dX10_worthBy_74 (by decide) ?_
          refine lv_icmp_ne (tgt := 126) C.1 C.2.1 dX10_worthBy_76 (by decide) (fun c76 => ?_) (fun c76 => ?_)
          · rw [if_neg c76] at h
            refine lv_iload_n C.1 C.2.1 dX10_worthBy_126 rfl (lv_at hl 3 rfl) ?_
            refine lv_iconst (v := 1) C.1 C.2.1 dX10_worthBy_127 (by decide) ?_
            refine lv_icmp_ge (tgt := 133) C.1 C.2.1 dX10_worthBy_128 (by decide) (fun c128 => ?_) (fun c128 => ?_)
            · rw [if_pos c128] at h
              refine lv_iload C.1 C.2.1 dX10_worthBy_133 (lv_at hl 6 rfl) ?_
              refine lv_bipush (v := 59) C.1 C.2.1 dX10_worthBy_135 (by decide) ?_
              refine lv_icmp_ne (tgt := 146) C.1 C.2.1 dX10_worthBy_137 (by decide) (fun c137 => ?_) (fun c137 => ?_)
              · rw [if_neg c137] at h
                refine lv_iload C.1 C.2.1 dX10_worthBy_146 (lv_at hl 6 rfl) ?_
                refine lv_bipush (v := 63) C.1 C.2.1 dX10_worthBy_148 (by decide) ?_
                refine lv_icmp_ne (tgt := 172) C.1 C.2.1 dX10_worthBy_150 (by decide) (fun c150 => ?_) (fun c150 => ?_)
                · rw [if_neg c150] at h
                  refine lv_iload C.1 C.2.1 dX10_worthBy_172 (lv_at hl 6 rfl) ?_
                  refine lv_bipush (v := 33) C.1 C.2.1 dX10_worthBy_174 (by decide) ?_
                  refine lv_icmp_ne (tgt := 194) C.1 C.2.1 dX10_worthBy_176 (by decide) (fun c176 => ?_) (fun c176 => ?_)
                  · rw [if_neg c176] at h
                    refine lv_iload_n C.1 C.2.1 dX10_worthBy_194 rfl (lv_at hl 3 rfl) ?_
                    refine lv_iconst (v := 2) C.1 C.2.1 dX10_worthBy_195 (by decide) ?_
                    refine lv_icmp_ge (tgt := 201) C.1 C.2.1 dX10_worthBy_196 (by decide) (fun c196 => ?_) (fun c196 => ?_)
                    · rw [if_pos c196] at h
                      refine lv_iinc (v := z3 + (-1)) (lv' := [(3, .int (z3 + (-1))), (0, .ref (ad (tA z0))), (1, .ref (ad 16)), (2, .ref (ad 17)), (4, .int z4), (5, .int z5), (6, .int v6), (7, .int v11)]) C.1 C.2.1 dX10_worthBy_201 hl (k := 3) rfl rfl (by decide) rfl (fun ls hl => ?_)
                      replace hl := lv_sub (l' := [(0, .ref (ad (tA z0))), (1, .ref (ad 16)), (2, .ref (ad 17)), (3, .int (z3 + (-1))), (4, .int z4), (5, .int z5), (6, .int v6), (7, .int v11)]) hl [1, 2, 3, 0, 4, 5, 6, 7] rfl
                      refine lv_aload_n C.1 C.2.1 dX10_worthBy_204 rfl (lv_at hl 2 rfl) ?_
                      refine lv_iload_n C.1 C.2.1 dX10_worthBy_205 rfl (lv_at hl 3 rfl) ?_
                      refine lv_iconst (v := 1) C.1 C.2.1 dX10_worthBy_206 (by decide) ?_
                      refine lv_isub C.1 C.2.1 dX10_worthBy_207 ?_
                      refine lv_iload C.1 C.2.1 dX10_worthBy_208 (lv_at hl 6 rfl) ?_
                      refine lv_aload_n C.1 C.2.1 dX10_worthBy_210 rfl (lv_at hl 2 rfl) ?_
                      refine lv_iload_n C.1 C.2.1 dX10_worthBy_211 rfl (lv_at hl 3 rfl) ?_
                      refine lv_iconst (v := 1) C.1 C.2.1 dX10_worthBy_212 (by decide) ?_
                      refine lv_isub C.1 C.2.1 dX10_worthBy_213 ?_
                      obtain ⟨hg17, h⟩ := gd_some h
                      refine lX_17 C hK hP hg17 dX10_worthBy_214 ?_
                      refine lv_i2l (v := (u.2.1 17 ((z3 + (-1)) - 1).toNatClampNeg).toInt64) C.1 C.2.1 dX10_worthBy_215 rfl ?_
                      refine lv_aload_n C.1 C.2.1 dX10_worthBy_216 rfl (lv_at hl 2 rfl) ?_
                      refine lv_iload_n C.1 C.2.1 dX10_worthBy_217 rfl (lv_at hl 3 rfl) ?_
                      obtain ⟨hg18, h⟩ := gd_some h
                      refine lX_17 C hK hP hg18 dX10_worthBy_218 ?_
                      refine lv_i2l (v := (u.2.1 17 (z3 + (-1)).toNatClampNeg).toInt64) C.1 C.2.1 dX10_worthBy_219 rfl ?_
                      obtain ⟨r19, hc21, h⟩ := bd_some h
                      refine cs_l (As := [.int v6, .long ((u.2.1 17 ((z3 + (-1)) - 1).toNatClampNeg).toInt64), .long ((u.2.1 17 (z3 + (-1)).toNatClampNeg).toInt64)]) (rest := [.int ((z3 + (-1)) - 1), .ref (ad 17)]) (AX_ge hJ) C hK hP hS (metX10_join l D cy st _ v6 ((u.2.1 17 ((z3 + (-1)) - 1).toNatClampNeg).toInt64) ((u.2.1 17 (z3 + (-1)).toNatClampNeg).toInt64) hc21) (va_cwS 3 C.2.2.2.2.2.1 gX10_worthBy_X10_join rfl rfl rfl (by decide +kernel) ⟨(Nat.le_of_ble_eq_true rfl), (Nat.le_of_ble_eq_true rfl)⟩) rfl hl.1 rfl (Nat.le_of_ble_eq_true rfl) dX10_worthBy_220 ⟨Nat.zero_le _, Nat.zero_le _⟩ (fun H locs hP hS => ?_)
                      obtain ⟨r22, hc24, h⟩ := bd_some h
                      refine cs_i (As := [.long r19]) (rest := [.int ((z3 + (-1)) - 1), .ref (ad 17)]) (AX_ge hJ) C hK hP hS (metX10_bounded l D cy st _ r19 hc24) (va_cwS 1 C.2.2.2.2.2.1 gX10_worthBy_X10_bounded rfl rfl rfl (by decide +kernel) ⟨(Nat.le_of_ble_eq_true rfl), (Nat.le_of_ble_eq_true rfl)⟩) rfl hl.1 rfl (Nat.le_of_ble_eq_true rfl) dX10_worthBy_223 ⟨Nat.zero_le _, Nat.zero_le _⟩ (fun H locs hP hS => ?_)
                      obtain ⟨hg25, h⟩ := gd_some h
                      refine tX_17 C hK hP hJ hS hg25 dX10_worthBy_226 (fun H locs hP hS => ?_)
                      obtain ⟨u26, hu27, h⟩ := lt_some h
                      rw [← hu27] at hP
                      exact wGX10_worthBy_T_a16_a17_227 C hK hJ ih _ _ _ _ _ _ _ _ h hP hS (lv_sub hl [0, 1, 2, 3, 4, 5] rfl)
                    · rw [if_neg c196] at h
                      refine lv_iconst (v := 0) C.1 C.2.1 dX10_worthBy_199 (by decide) ?_
                      cases h
                      exact rt_i C hP hS dX10_worthBy_200
                  · rw [if_pos c176] at h
                    refine lv_aload_n C.1 C.2.1 dX10_worthBy_179 rfl (lv_at hl 2 rfl) ?_
                    refine lv_iload_n C.1 C.2.1 dX10_worthBy_180 rfl (lv_at hl 3 rfl) ?_
                    refine lv_iconst (v := 1) C.1 C.2.1 dX10_worthBy_181 (by decide) ?_
                    refine lv_isub C.1 C.2.1 dX10_worthBy_182 ?_
                    refine lv_iconst (v := 1) C.1 C.2.1 dX10_worthBy_183 (by decide) ?_
                    refine lv_aload_n C.1 C.2.1 dX10_worthBy_184 rfl (lv_at hl 2 rfl) ?_
                    refine lv_iload_n C.1 C.2.1 dX10_worthBy_185 rfl (lv_at hl 3 rfl) ?_
                    refine lv_iconst (v := 1) C.1 C.2.1 dX10_worthBy_186 (by decide) ?_
                    refine lv_isub C.1 C.2.1 dX10_worthBy_187 ?_
                    obtain ⟨hg28, h⟩ := gd_some h
                    refine lX_17 C hK hP hg28 dX10_worthBy_188 ?_
                    refine lv_isub C.1 C.2.1 dX10_worthBy_189 ?_
                    obtain ⟨hg29, h⟩ := gd_some h
                    refine tX_17 C hK hP hJ hS hg29 dX10_worthBy_190 (fun H locs hP hS => ?_)
                    obtain ⟨u30, hu31, h⟩ := lt_some h
                    rw [← hu31] at hP
                    refine lv_goto (tgt := 227) C.1 C.2.1 dX10_worthBy_191 (by decide) ?_
                    exact wGX10_worthBy_T_a16_a17_227 C hK hJ ih _ _ _ _ _ _ _ _ h hP hS (lv_sub hl [0, 1, 2, 3, 4, 5] rfl)
                · rw [if_pos c150] at h
                  refine lv_iinc (v := z3 + (-1)) (lv' := [(3, .int (z3 + (-1))), (0, .ref (ad (tA z0))), (1, .ref (ad 16)), (2, .ref (ad 17)), (4, .int z4), (5, .int z5), (6, .int v6), (7, .int v11)]) C.1 C.2.1 dX10_worthBy_153 hl (k := 3) rfl rfl (by decide) rfl (fun ls hl => ?_)
                  replace hl := lv_sub (l' := [(0, .ref (ad (tA z0))), (1, .ref (ad 16)), (2, .ref (ad 17)), (3, .int (z3 + (-1))), (4, .int z4), (5, .int z5), (6, .int v6), (7, .int v11)]) hl [1, 2, 3, 0, 4, 5, 6, 7] rfl
                  refine lv_aload_n C.1 C.2.1 dX10_worthBy_156 rfl (lv_at hl 2 rfl) ?_
                  refine lv_iload_n C.1 C.2.1 dX10_worthBy_157 rfl (lv_at hl 3 rfl) ?_
                  obtain ⟨hg32, h⟩ := gd_some h
                  refine lX_17 C hK hP hg32 dX10_worthBy_158 ?_
                  refine lv_if_ne (tgt := 166) C.1 C.2.1 dX10_worthBy_159 (by decide) (fun c159 => ?_) (fun c159 => ?_)
                  · rw [if_neg c159] at h
                    refine lv_iconst (v := 0) C.1 C.2.1 dX10_worthBy_166 (by decide) ?_
                    exact wGX10_worthBy_T_a16_a17_167 C hK hJ ih _ _ _ _ _ _ _ _ h hP hS (lv_sub hl [0, 1, 2, 3, 5] rfl)
                  · rw [if_pos c159] at h
                    refine lv_iconst (v := 1) C.1 C.2.1 dX10_worthBy_162 (by decide) ?_
                    refine lv_goto (tgt := 167) C.1 C.2.1 dX10_worthBy_163 (by decide) ?_
                    exact wGX10_worthBy_T_a16_a17_167 C hK hJ ih _ _ _ _ _ _ _ _ h hP hS (lv_sub hl [0, 1, 2, 3, 5] rfl)
              · rw [if_pos c137] at h
                refine lv_aload_n C.1 C.2.1 dX10_worthBy_140 rfl (lv_at hl 2 rfl) ?_
                refine lv_iload_n C.1 C.2.1 dX10_worthBy_141 rfl (lv_at hl 3 rfl) ?_
                refine lv_iconst (v := 1) C.1 C.2.1 dX10_worthBy_142 (by decide) ?_
                refine lv_isub C.1 C.2.1 dX10_worthBy_143 ?_
                obtain ⟨hg33, h⟩ := gd_some h
                refine lX_17 C hK hP hg33 dX10_worthBy_144 ?_
                cases h
                exact rt_i C hP hS dX10_worthBy_145
            · rw [if_neg c128] at h
              refine lv_iconst (v := 0) C.1 C.2.1 dX10_worthBy_131 (by decide) ?_
              cases h
              exact rt_i C hP hS dX10_worthBy_132
          · rw [if_pos c76] at h
            exact wGX10_worthBy_T_a16_a17_79 C hK hJ ih _ _ _ _ _ _ _ _ _ _ h hP hS hl
      · rw [if_neg c45] at h
        refine lv_iload C.1 C.2.1 dX10_worthBy_48 (lv_at hl 6 rfl) ?_
        refine lv_bipush (v := 59) C.1 C.2.1 dX10_worthBy_50 (by decide) ?_
        refine lv_icmp_eq (tgt := 59) C.1 C.2.1 dX10_worthBy_52 (by decide) (fun c52 => ?_) (fun c52 => ?_)
        · rw [if_pos c52] at h
          refine lv_iconst (v := 0) C.1 C.2.1 dX10_worthBy_59 (by decide) ?_
          exact wGX10_worthBy_T_a16_a17_60 C hK hJ ih _ _ _ _ _ _ _ _ h hP hS (lv_sub hl [0, 1, 2, 3, 5] rfl)
        · rw [if_neg c52] at h
          refine lv_iconst (v := 1) C.1 C.2.1 dX10_worthBy_55 (by decide) ?_
          refine lv_goto (tgt := 60) C.1 C.2.1 dX10_worthBy_56 (by decide) ?_
          exact wGX10_worthBy_T_a16_a17_60 C hK hJ ih _ _ _ _ _ _ _ _ h hP hS (lv_sub hl [0, 1, 2, 3, 5] rfl)
set_option maxHeartbeats 4000000 in
set_option maxRecDepth 100000 in
theorem wX10_worthBy_T_a16_a17 {p : Program} {l : Launch} {e : Env} {s : State} {m : MethodId} {args : Array Value} {below : List Frame} {meth : Method} {c : Code} {D : va_G} {cy : Nat → ClassId} {ad st : Nat → Nat} (C : Cx RX10 cX10_worthBy 8 (some .int) wsX10_worthBy p s m args meth c) (hK : Ky D [(cy 0, .int), (cy 1, .long), (cy 2, .boolean), (cy 3, .byte), (cy 4, .object "HissHorn$Text")] st s) (hJ : JX ad st) (x0 : Nat) {u : SX} {r : Int32} {u' : SX} {H : Heap} {locs : List Loc} {ls : Array Slot} (h : fX10_worthBy_T_a16_a17 x0 u = some (r, u')) (hP : va_P D vwCl (VX cy ad st u) H) (hS : va_S (Ax (AX ad) s.heap.size) s.heap H locs) (hl : lv_has ls 8 [(0, .ref (ad (tA x0))), (1, .ref (ad 16)), (2, .ref (ad 17))]) : W p l e rmX10_worthBy_T_a16_a17 s m args below meth c H locs 0 0 (MQ below (Qi D (VX cy ad st) (AX ad) s.heap.size r u') args s 0 0 (Ax (AX ad) s.heap.size)) (F0 m 0 ls []) := by
  unfold fX10_worthBy_T_a16_a17 at h
  refine lv_iconst (v := 0) C.1 C.2.1 dX10_worthBy_0 (by decide) ?_
  refine lv_istore_n (lv' := [(3, .int 0), (0, .ref (ad (tA x0))), (1, .ref (ad 16)), (2, .ref (ad 17))]) C.1 C.2.1 dX10_worthBy_1 rfl hl (by decide) rfl (fun ls hl => ?_)
  replace hl := lv_sub (l' := [(0, .ref (ad (tA x0))), (1, .ref (ad 16)), (2, .ref (ad 17)), (3, .int 0)]) hl [1, 2, 3, 0] rfl
  refine lv_iconst (v := 0) C.1 C.2.1 dX10_worthBy_2 (by decide) ?_
  refine lv_istore (lv' := [(4, .int 0), (0, .ref (ad (tA x0))), (1, .ref (ad 16)), (2, .ref (ad 17)), (3, .int 0)]) C.1 C.2.1 dX10_worthBy_3 hl (by decide) rfl (fun ls hl => ?_)
  replace hl := lv_sub (l' := [(0, .ref (ad (tA x0))), (1, .ref (ad 16)), (2, .ref (ad 17)), (3, .int 0), (4, .int 0)]) hl [1, 2, 3, 4, 0] rfl
  refine lv_iconst (v := 0) C.1 C.2.1 dX10_worthBy_5 (by decide) ?_
  refine lv_istore (lv' := [(5, .int 0), (0, .ref (ad (tA x0))), (1, .ref (ad 16)), (2, .ref (ad 17)), (3, .int 0), (4, .int 0)]) C.1 C.2.1 dX10_worthBy_6 hl (by decide) rfl (fun ls hl => ?_)
  replace hl := lv_sub (l' := [(0, .ref (ad (tA x0))), (1, .ref (ad 16)), (2, .ref (ad 17)), (3, .int 0), (4, .int 0), (5, .int 0)]) hl [1, 2, 3, 4, 5, 0] rfl
  exact wLX10_worthBy_T_a16_a17_8 C hK hJ  5000 _ _ _ _ _ _ _ _ h hP hS hl
theorem metX10_worthBy_T_a16_a17 (l : Launch) (D : va_G) (cy : Nat → ClassId) (ad st : Nat → Nat) (hJ : JX ad st) (sz : Nat) (x0 : Nat) {u : SX} {r : Int32} {u' : SX} (h : fX10_worthBy_T_a16_a17 x0 u = some (r, u')) : Met l yX10_worthBy wsX10_worthBy rmX10_worthBy_T_a16_a17 (va_Pc [.ref (ad (tA x0)), .ref (ad 16), .ref (ad 17)] (Px D [(cy 0, .int), (cy 1, .long), (cy 2, .boolean), (cy 3, .byte), (cy 4, .object "HissHorn$Text")] st (VX cy ad st) sz u)) (Qi D (VX cy ad st) (AX ad) sz r u') 0 0 (Ax (AX ad) sz) := by
  refine Met.ofW (cc := cX10_worthBy) (maxL := 8) (ret := (some .int)) (by decide) rfl ?_
  intro p e s m args below meth c s₁ B hml hv
  obtain ⟨rfl, hsz, hP, hK⟩ := hv
  subst hsz
  have C : Cx RX10 cX10_worthBy 8 (some .int) wsX10_worthBy p s m _ meth c := ⟨B.exec, B.bytes, hml, B.returns, findClass_of_methodNamed B.named, atoms_spec (ws := wsX10_worthBy) B.pre, B.notSynchronized⟩
  have hl := lv_entry ([.ref (ad (tA x0)), .ref (ad 16), .ref (ad 17)]) (n := 8) (Nat.le_of_ble_eq_true rfl)
  rw [lg_entry_eq]
  exact wX10_worthBy_T_a16_a17 C hK hJ x0 h hP va_S.rf hl

theorem zdX8_ask_18 : (and (and (and (and (and (zk cX8_ask 18 (.astore_n 2) 1) (zk cX8_ask 19 (.aload_n 2) 1)) (zk cX8_ask 20 (.ifnonnull 7) 3)) (and (and (zk cX8_ask 23 (.iconst 0) 1) (zk cX8_ask 24 (.goto 15) 3)) (zk cX8_ask 39 (.ireturn) 1))) (and (and (and (zk cX8_ask 27 (.aload_n 2) 1) (zk cX8_ask 28 (.aload_n 0) 1)) (zk cX8_ask 29 (.getfield 33) 3)) (and (zk cX8_ask 32 (.aload_n 0) 1) (zk cX8_ask 33 (.getfield 11) 3)))) (and (and (and (and (zk cX8_ask 36 (.invokevirtual 52) 3) (zk cX8_ask 0 (.aload_n 0) 1)) (zk cX8_ask 1 (.iload_n 1) 1)) (and (and (zk cX8_ask 2 (.invokevirtual 48) 3) (zk cX8_ask 5 (.ifCond .eq 12) 3)) (zk cX8_ask 17 (.aconst_null) 1))) (and (and (and (zk cX8_ask 8 (.aload_n 0) 1) (zk cX8_ask 9 (.getfield 23) 3)) (zk cX8_ask 12 (.iload_n 1) 1)) (and (zk cX8_ask 13 (.aaload) 1) (zk cX8_ask 14 (.goto 4) 3))))) = true := by decide +kernel
theorem dX8_ask_18 : decode cX8_ask 18 = .ok (.astore_n 2, 1) := zk_of (zk_l (zk_l (zk_l (zk_l (zk_l zdX8_ask_18)))))
theorem dX8_ask_19 : decode cX8_ask 19 = .ok (.aload_n 2, 1) := zk_of (zk_r (zk_l (zk_l (zk_l (zk_l zdX8_ask_18)))))
theorem dX8_ask_20 : decode cX8_ask 20 = .ok (.ifnonnull 7, 3) := zk_of (zk_r (zk_l (zk_l (zk_l zdX8_ask_18))))
theorem dX8_ask_23 : decode cX8_ask 23 = .ok (.iconst 0, 1) := zk_of (zk_l (zk_l (zk_r (zk_l (zk_l zdX8_ask_18)))))
theorem dX8_ask_24 : decode cX8_ask 24 = .ok (.goto 15, 3) := zk_of (zk_r (zk_l (zk_r (zk_l (zk_l zdX8_ask_18)))))
theorem dX8_ask_39 : decode cX8_ask 39 = .ok (.ireturn, 1) := zk_of (zk_r (zk_r (zk_l (zk_l zdX8_ask_18))))
theorem dX8_ask_27 : decode cX8_ask 27 = .ok (.aload_n 2, 1) := zk_of (zk_l (zk_l (zk_l (zk_r (zk_l zdX8_ask_18)))))
theorem dX8_ask_28 : decode cX8_ask 28 = .ok (.aload_n 0, 1) := zk_of (zk_r (zk_l (zk_l (zk_r (zk_l zdX8_ask_18)))))
theorem dX8_ask_29 : decode cX8_ask 29 = .ok (.getfield 33, 3) := zk_of (zk_r (zk_l (zk_r (zk_l zdX8_ask_18))))
theorem dX8_ask_32 : decode cX8_ask 32 = .ok (.aload_n 0, 1) := zk_of (zk_l (zk_r (zk_r (zk_l zdX8_ask_18))))
theorem dX8_ask_33 : decode cX8_ask 33 = .ok (.getfield 11, 3) := zk_of (zk_r (zk_r (zk_r (zk_l zdX8_ask_18))))
theorem dX8_ask_36 : decode cX8_ask 36 = .ok (.invokevirtual 52, 3) := zk_of (zk_l (zk_l (zk_l (zk_l (zk_r zdX8_ask_18)))))
theorem dX8_ask_0 : decode cX8_ask 0 = .ok (.aload_n 0, 1) := zk_of (zk_r (zk_l (zk_l (zk_l (zk_r zdX8_ask_18)))))
theorem dX8_ask_1 : decode cX8_ask 1 = .ok (.iload_n 1, 1) := zk_of (zk_r (zk_l (zk_l (zk_r zdX8_ask_18))))
theorem dX8_ask_2 : decode cX8_ask 2 = .ok (.invokevirtual 48, 3) := zk_of (zk_l (zk_l (zk_r (zk_l (zk_r zdX8_ask_18)))))
theorem dX8_ask_5 : decode cX8_ask 5 = .ok (.ifCond .eq 12, 3) := zk_of (zk_r (zk_l (zk_r (zk_l (zk_r zdX8_ask_18)))))
theorem dX8_ask_17 : decode cX8_ask 17 = .ok (.aconst_null, 1) := zk_of (zk_r (zk_r (zk_l (zk_r zdX8_ask_18))))
theorem dX8_ask_8 : decode cX8_ask 8 = .ok (.aload_n 0, 1) := zk_of (zk_l (zk_l (zk_l (zk_r (zk_r zdX8_ask_18)))))
theorem dX8_ask_9 : decode cX8_ask 9 = .ok (.getfield 23, 3) := zk_of (zk_r (zk_l (zk_l (zk_r (zk_r zdX8_ask_18)))))
theorem dX8_ask_12 : decode cX8_ask 12 = .ok (.iload_n 1, 1) := zk_of (zk_r (zk_l (zk_r (zk_r zdX8_ask_18))))
theorem dX8_ask_13 : decode cX8_ask 13 = .ok (.aaload, 1) := zk_of (zk_l (zk_r (zk_r (zk_r zdX8_ask_18))))
theorem dX8_ask_14 : decode cX8_ask 14 = .ok (.goto 4, 3) := zk_of (zk_r (zk_r (zk_r (zk_r zdX8_ask_18))))
set_option maxRecDepth 20000 in
theorem ggX8_ask_X10_worthBy : GoodIn wsX8_ask wsX10_worthBy := goodIn_r _ [14, 15, 16, 17, 13, 18, 19, 20, 21, 22, 23, 24, 25, 26, 27, 28, 29, 30, 36] rfl (by decide +kernel)
set_option maxRecDepth 20000 in
theorem gX8_ask_X10_worthBy : GoodIn wsX8_ask (wsV RX8 52 RX10 yX10_worthBy wsX10_worthBy) := goodIn_app (goodIn_of _ (by decide +kernel)) ggX8_ask_X10_worthBy
set_option maxRecDepth 20000 in
theorem ggX8_ask_X8_has : GoodIn wsX8_ask wsX8_has := goodIn_r _ [8, 9, 31, 32, 33, 34, 35] rfl (by decide +kernel)
set_option maxRecDepth 20000 in
theorem gX8_ask_X8_has : GoodIn wsX8_ask (wsV RX8 48 RX8 yX8_has wsX8_has) := goodIn_app (goodIn_of _ (by decide +kernel)) ggX8_ask_X8_has
/-- HissHorn$Shelf.ask(I)I of cell 3 -/
def rmX8_ask_3 : Room := { frames := 3, cells := 0, slots := 0, locals := 65 }
def GX8_ask_3_18  (u : SX) : Option (Int32 × SX) := (some (0, u))
theorem hX8_ask_3_X8 : ∀ w ∈ u_ws RX8 TX8 5, w ∈ wsX8_ask := fun w h => (List.mem_cons_of_mem _ (List.mem_append_left _ (List.mem_append_right _ h)))
theorem mX8_ask_3_1 : Cond.fieldLink RX8 23 "HissHorn$Shelf" "texts" "[LHissHorn$Text;" ∈ wsX8_ask := (List.mem_cons_of_mem _ (List.mem_append_left _ (List.mem_append_left _ (List.mem_append_left _ (List.mem_of_getElem? (i := 0) rfl)))))
theorem mX8_ask_3_2 : Cond.fieldLink RX8 33 "HissHorn$Shelf" "values" "[I" ∈ wsX8_ask := (List.mem_cons_of_mem _ (List.mem_append_left _ (List.mem_append_left _ (List.mem_append_left _ (List.mem_of_getElem? (i := 1) rfl)))))
theorem mX8_ask_3_3 : Cond.fieldLink RX8 11 "HissHorn$Shelf" "stack" "[I" ∈ wsX8_ask := (List.mem_cons_of_mem _ (List.mem_append_left _ (List.mem_append_left _ (List.mem_append_left _ (List.mem_of_getElem? (i := 2) rfl)))))
def GX8_ask_3_18a (y0 : Nat) (u : SX) : Option (Int32 × SX) := (gd (decide (y0 < tN u)) ((fX10_worthBy_T_a16_a17 y0  u).bind fun q => match q with | (r7, u8) => (some (r7, u8))))
def fX8_ask_3 (x1 : Int32) (u : SX) : Option (Int32 × SX) := ((fX8_has_3 x1 u).bind fun q => match q with | (r1, u2) => (if r1 = 0 then (GX8_ask_3_18 u2) else (gd (inb x1 12) (tcs (tQ u2 15 x1.toNatClampNeg) (tN u2) (GX8_ask_3_18 u2) (fun k5 => (GX8_ask_3_18a k5 u2))))))
set_option maxHeartbeats 4000000 in
set_option maxRecDepth 100000 in
theorem wGX8_ask_3_18 {p : Program} {l : Launch} {e : Env} {s : State} {m : MethodId} {args : Array Value} {below : List Frame} {meth : Method} {c : Code} {D : va_G} {cy : Nat → ClassId} {ad st : Nat → Nat} (C : Cx RX8 cX8_ask 3 (some .int) wsX8_ask p s m args meth c) (hK : Ky D [(cy 0, .int), (cy 1, .long), (cy 2, .boolean), (cy 3, .byte), (cy 4, .object "HissHorn$Text")] st s) (hJ : JX ad st) {r : Int32} {u' : SX}   (u : SX) (H : Heap) (locs : List Loc) (ls : Array Slot) (h : GX8_ask_3_18  u = some (r, u')) (hP : va_P D vwCl (VX cy ad st u) H) (hS : va_S (Ax (AX ad) s.heap.size) s.heap H locs) (hl : lv_has ls 3 [(0, .ref (ad 3))]) : W p l e rmX8_ask_3 s m args below meth c H locs 0 0 (MQ below (Qi D (VX cy ad st) (AX ad) s.heap.size r u') args s 0 0 (Ax (AX ad) s.heap.size)) (F0 m 18 ls [.null]) := by
  unfold GX8_ask_3_18 at h
  refine lv_astore_nN (lv' := [(2, .null), (0, .ref (ad 3))]) C.1 C.2.1 dX8_ask_18 rfl hl (by decide) rfl (fun ls hl => ?_)
  replace hl := lv_sub (l' := [(0, .ref (ad 3)), (2, .null)]) hl [1, 0] rfl
  refine lv_aload_nN C.1 C.2.1 dX8_ask_19 rfl (lv_at hl 1 rfl) ?_
  refine lv_ifnonnullN C.1 C.2.1 dX8_ask_20 ?_
  refine lv_iconst (v := 0) C.1 C.2.1 dX8_ask_23 (by decide) ?_
  refine lv_goto (tgt := 39) C.1 C.2.1 dX8_ask_24 (by decide) ?_
  cases h
  exact rt_i C hP hS dX8_ask_39
set_option maxHeartbeats 4000000 in
set_option maxRecDepth 100000 in
theorem wGX8_ask_3_18a {p : Program} {l : Launch} {e : Env} {s : State} {m : MethodId} {args : Array Value} {below : List Frame} {meth : Method} {c : Code} {D : va_G} {cy : Nat → ClassId} {ad st : Nat → Nat} (C : Cx RX8 cX8_ask 3 (some .int) wsX8_ask p s m args meth c) (hK : Ky D [(cy 0, .int), (cy 1, .long), (cy 2, .boolean), (cy 3, .byte), (cy 4, .object "HissHorn$Text")] st s) (hJ : JX ad st) {r : Int32} {u' : SX}   (y0 : Nat) (u : SX) (H : Heap) (locs : List Loc) (ls : Array Slot) (h : GX8_ask_3_18a y0 u = some (r, u')) (hP : va_P D vwCl (VX cy ad st u) H) (hS : va_S (Ax (AX ad) s.heap.size) s.heap H locs) (hl : lv_has ls 3 [(0, .ref (ad 3))]) : W p l e rmX8_ask_3 s m args below meth c H locs 0 0 (MQ below (Qi D (VX cy ad st) (AX ad) s.heap.size r u') args s 0 0 (Ax (AX ad) s.heap.size)) (F0 m 18 ls [.ref (ad (tA y0))]) := by
  unfold GX8_ask_3_18a at h
  refine lv_astore_n (lv' := [(2, .ref (ad (tA y0))), (0, .ref (ad 3))]) C.1 C.2.1 dX8_ask_18 rfl hl (by decide) rfl (fun ls hl => ?_)
  replace hl := lv_sub (l' := [(0, .ref (ad 3)), (2, .ref (ad (tA y0)))]) hl [1, 0] rfl
  refine lv_aload_n C.1 C.2.1 dX8_ask_19 rfl (lv_at hl 1 rfl) ?_
  refine lv_ifnonnull (tgt := 27) C.1 C.2.1 dX8_ask_20 (by decide) ?_
  refine lv_aload_n C.1 C.2.1 dX8_ask_27 rfl (lv_at hl 1 rfl) ?_
  refine lv_aload_n C.1 C.2.1 dX8_ask_28 rfl (lv_at hl 0 rfl) ?_
  refine gX_3_values C hX8_ask_3_X8 hK hP mX8_ask_3_2 dX8_ask_29 ?_
  refine lv_aload_n C.1 C.2.1 dX8_ask_32 rfl (lv_at hl 0 rfl) ?_
  refine gX_3_stack C hX8_ask_3_X8 hK hP mX8_ask_3_3 dX8_ask_33 ?_
  obtain ⟨hg6, h⟩ := gd_some h
  obtain ⟨⟨r7, u8⟩, hc9, h⟩ := bd_some h
  try dsimp only at h
  refine cg_i (As := [.ref (ad 16), .ref (ad 17)]) (rest := []) (AX_ge hJ) C hK hP hS (metX10_worthBy_T_a16_a17 l D cy ad st hJ _ y0  hc9) (cwV 2 C.2.2.2.2.2.1 gX8_ask_X10_worthBy rfl rfl rfl (by decide +kernel) ⟨(Nat.le_of_ble_eq_true rfl), (Nat.le_of_ble_eq_true rfl)⟩) (73 + 2 * y0) 10 rfl (VX_T (of_decide_eq_true hg6)) rfl hl.1 rfl (Nat.le_of_ble_eq_true rfl) dX8_ask_36 ⟨Nat.zero_le _, Nat.zero_le _⟩ (fun H locs hP hS => ?_)
  cases h
  exact rt_i C hP hS dX8_ask_39
set_option maxHeartbeats 4000000 in
set_option maxRecDepth 100000 in
theorem wX8_ask_3 {p : Program} {l : Launch} {e : Env} {s : State} {m : MethodId} {args : Array Value} {below : List Frame} {meth : Method} {c : Code} {D : va_G} {cy : Nat → ClassId} {ad st : Nat → Nat} (C : Cx RX8 cX8_ask 3 (some .int) wsX8_ask p s m args meth c) (hK : Ky D [(cy 0, .int), (cy 1, .long), (cy 2, .boolean), (cy 3, .byte), (cy 4, .object "HissHorn$Text")] st s) (hJ : JX ad st) (x1 : Int32) {u : SX} {r : Int32} {u' : SX} {H : Heap} {locs : List Loc} {ls : Array Slot} (h : fX8_ask_3 x1 u = some (r, u')) (hP : va_P D vwCl (VX cy ad st u) H) (hS : va_S (Ax (AX ad) s.heap.size) s.heap H locs) (hl : lv_has ls 3 [(0, .ref (ad 3)), (1, .int x1)]) : W p l e rmX8_ask_3 s m args below meth c H locs 0 0 (MQ below (Qi D (VX cy ad st) (AX ad) s.heap.size r u') args s 0 0 (Ax (AX ad) s.heap.size)) (F0 m 0 ls []) := by
  unfold fX8_ask_3 at h
  refine lv_aload_n C.1 C.2.1 dX8_ask_0 rfl (lv_at hl 0 rfl) ?_
  refine lv_iload_n C.1 C.2.1 dX8_ask_1 rfl (lv_at hl 1 rfl) ?_
  obtain ⟨⟨r1, u2⟩, hc3, h⟩ := bd_some h
  try dsimp only at h
  refine cg_i (As := [.int x1]) (rest := []) (AX_ge hJ) C hK hP hS (metX8_has_3 l D cy ad st hJ _ x1 hc3) (cwV 1 C.2.2.2.2.2.1 gX8_ask_X8_has rfl rfl rfl (by decide +kernel) ⟨(Nat.le_of_ble_eq_true rfl), (Nat.le_of_ble_eq_true rfl)⟩) 3 8 rfl rfl rfl hl.1 rfl (Nat.le_of_ble_eq_true rfl) dX8_ask_2 ⟨Nat.zero_le _, Nat.zero_le _⟩ (fun H locs hP hS => ?_)
  refine lv_if_eq (tgt := 17) C.1 C.2.1 dX8_ask_5 (by decide) (fun c5 => ?_) (fun c5 => ?_)
  · rw [if_pos c5] at h
    refine lv_null C.1 C.2.1 dX8_ask_17 ?_
    exact wGX8_ask_3_18 C hK hJ _ _ _ _ h hP hS (lv_sub hl [0] rfl)
  · rw [if_neg c5] at h
    refine lv_aload_n C.1 C.2.1 dX8_ask_8 rfl (lv_at hl 0 rfl) ?_
    refine gX_3_texts C hX8_ask_3_X8 hK hP mX8_ask_3_1 dX8_ask_9 ?_
    refine lv_iload_n C.1 C.2.1 dX8_ask_12 rfl (lv_at hl 1 rfl) ?_
    obtain ⟨hg4, h⟩ := gd_some h
    refine aX_15 C hK hP hg4 dX8_ask_13 (fun ht => ?_) (fun k5 ht => ?_)
    · replace h := tcs_n ht h
      refine lv_goto (tgt := 18) C.1 C.2.1 dX8_ask_14 (by decide) ?_
      exact wGX8_ask_3_18 C hK hJ _ _ _ _ h hP hS (lv_sub hl [0] rfl)
    · replace h := (tcs_s ht h).2
      refine lv_goto (tgt := 18) C.1 C.2.1 dX8_ask_14 (by decide) ?_
      exact wGX8_ask_3_18a C hK hJ _ _ _ _ _ h hP hS (lv_sub hl [0] rfl)
theorem metX8_ask_3 (l : Launch) (D : va_G) (cy : Nat → ClassId) (ad st : Nat → Nat) (hJ : JX ad st) (sz : Nat) (x1 : Int32) {u : SX} {r : Int32} {u' : SX} (h : fX8_ask_3 x1 u = some (r, u')) : Met l yX8_ask wsX8_ask rmX8_ask_3 (va_Pc [.ref (ad 3), .int x1] (Px D [(cy 0, .int), (cy 1, .long), (cy 2, .boolean), (cy 3, .byte), (cy 4, .object "HissHorn$Text")] st (VX cy ad st) sz u)) (Qi D (VX cy ad st) (AX ad) sz r u') 0 0 (Ax (AX ad) sz) := by
  refine Met.ofW (cc := cX8_ask) (maxL := 3) (ret := (some .int)) (by decide) rfl ?_
  intro p e s m args below meth c s₁ B hml hv
  obtain ⟨rfl, hsz, hP, hK⟩ := hv
  subst hsz
  have C : Cx RX8 cX8_ask 3 (some .int) wsX8_ask p s m _ meth c := ⟨B.exec, B.bytes, hml, B.returns, findClass_of_methodNamed B.named, atoms_spec (ws := wsX8_ask) B.pre, B.notSynchronized⟩
  have hl := lv_entry ([.ref (ad 3), .int x1]) (n := 3) (Nat.le_of_ble_eq_true rfl)
  rw [lg_entry_eq]
  exact wX8_ask_3 C hK hJ x1 h hP va_S.rf hl

theorem zdX11_worth_0 : (and (and (and (and (and (zk cX11_worth 0 (.aload_n 0) 1) (zk cX11_worth 1 (.getfield 32) 3)) (and (zk cX11_worth 4 (.iload_n 1) 1) (zk cX11_worth 5 (.invokevirtual 146) 3))) (and (and (zk cX11_worth 8 (.ifCond .eq 27) 3) (zk cX11_worth 11 (.iload_n 2) 1)) (and (zk cX11_worth 12 (.iload_n 3) 1) (zk cX11_worth 13 (.iload 4) 2)))) (and (and (and (zk cX11_worth 15 (.iload 6) 2) (zk cX11_worth 17 (.iload 7) 2)) (and (zk cX11_worth 19 (.invokestatic 150) 3) (zk cX11_worth 22 (.ifCond .eq 13) 3))) (and (and (zk cX11_worth 25 (.iload 5) 2) (zk cX11_worth 27 (.iconst 0) 1)) (and (zk cX11_worth 28 (.iconst 3) 1) (zk cX11_worth 29 (.invokestatic 107) 3))))) (and (and (and (and (zk cX11_worth 32 (.ifCond .ne 11) 3) (zk cX11_worth 43 (.aload_n 0) 1)) (and (zk cX11_worth 44 (.getfield 32) 3) (zk cX11_worth 47 (.iload_n 2) 1))) (and (and (zk cX11_worth 48 (.iload_n 3) 1) (zk cX11_worth 49 (.iload 4) 2)) (and (zk cX11_worth 51 (.iload 5) 2) (zk cX11_worth 53 (.iload 6) 2)))) (and (and (and (zk cX11_worth 55 (.iload 7) 2) (zk cX11_worth 57 (.invokevirtual 157) 3)) (and (zk cX11_worth 60 (.aload_n 0) 1) (zk cX11_worth 61 (.getfield 32) 3))) (and (and (zk cX11_worth 64 (.iload_n 1) 1) (zk cX11_worth 65 (.invokevirtual 161) 3)) (zk cX11_worth 68 (.ireturn) 1))))) = true := by decide +kernel
theorem dX11_worth_0 : decode cX11_worth 0 = .ok (.aload_n 0, 1) := zk_of (zk_l (zk_l (zk_l (zk_l (zk_l zdX11_worth_0)))))
theorem dX11_worth_1 : decode cX11_worth 1 = .ok (.getfield 32, 3) := zk_of (zk_r (zk_l (zk_l (zk_l (zk_l zdX11_worth_0)))))
theorem dX11_worth_4 : decode cX11_worth 4 = .ok (.iload_n 1, 1) := zk_of (zk_l (zk_r (zk_l (zk_l (zk_l zdX11_worth_0)))))
theorem dX11_worth_5 : decode cX11_worth 5 = .ok (.invokevirtual 146, 3) := zk_of (zk_r (zk_r (zk_l (zk_l (zk_l zdX11_worth_0)))))
theorem dX11_worth_8 : decode cX11_worth 8 = .ok (.ifCond .eq 27, 3) := zk_of (zk_l (zk_l (zk_r (zk_l (zk_l zdX11_worth_0)))))
theorem dX11_worth_11 : decode cX11_worth 11 = .ok (.iload_n 2, 1) := zk_of (zk_r (zk_l (zk_r (zk_l (zk_l zdX11_worth_0)))))
theorem dX11_worth_12 : decode cX11_worth 12 = .ok (.iload_n 3, 1) := zk_of (zk_l (zk_r (zk_r (zk_l (zk_l zdX11_worth_0)))))
theorem dX11_worth_13 : decode cX11_worth 13 = .ok (.iload 4, 2) := zk_of (zk_r (zk_r (zk_r (zk_l (zk_l zdX11_worth_0)))))
theorem dX11_worth_15 : decode cX11_worth 15 = .ok (.iload 6, 2) := zk_of (zk_l (zk_l (zk_l (zk_r (zk_l zdX11_worth_0)))))
theorem dX11_worth_17 : decode cX11_worth 17 = .ok (.iload 7, 2) := zk_of (zk_r (zk_l (zk_l (zk_r (zk_l zdX11_worth_0)))))
theorem dX11_worth_19 : decode cX11_worth 19 = .ok (.invokestatic 150, 3) := zk_of (zk_l (zk_r (zk_l (zk_r (zk_l zdX11_worth_0)))))
theorem dX11_worth_22 : decode cX11_worth 22 = .ok (.ifCond .eq 13, 3) := zk_of (zk_r (zk_r (zk_l (zk_r (zk_l zdX11_worth_0)))))
theorem dX11_worth_25 : decode cX11_worth 25 = .ok (.iload 5, 2) := zk_of (zk_l (zk_l (zk_r (zk_r (zk_l zdX11_worth_0)))))
theorem dX11_worth_27 : decode cX11_worth 27 = .ok (.iconst 0, 1) := zk_of (zk_r (zk_l (zk_r (zk_r (zk_l zdX11_worth_0)))))
theorem dX11_worth_28 : decode cX11_worth 28 = .ok (.iconst 3, 1) := zk_of (zk_l (zk_r (zk_r (zk_r (zk_l zdX11_worth_0)))))
theorem dX11_worth_29 : decode cX11_worth 29 = .ok (.invokestatic 107, 3) := zk_of (zk_r (zk_r (zk_r (zk_r (zk_l zdX11_worth_0)))))
theorem dX11_worth_32 : decode cX11_worth 32 = .ok (.ifCond .ne 11, 3) := zk_of (zk_l (zk_l (zk_l (zk_l (zk_r zdX11_worth_0)))))
theorem dX11_worth_43 : decode cX11_worth 43 = .ok (.aload_n 0, 1) := zk_of (zk_r (zk_l (zk_l (zk_l (zk_r zdX11_worth_0)))))
theorem dX11_worth_44 : decode cX11_worth 44 = .ok (.getfield 32, 3) := zk_of (zk_l (zk_r (zk_l (zk_l (zk_r zdX11_worth_0)))))
theorem dX11_worth_47 : decode cX11_worth 47 = .ok (.iload_n 2, 1) := zk_of (zk_r (zk_r (zk_l (zk_l (zk_r zdX11_worth_0)))))
theorem dX11_worth_48 : decode cX11_worth 48 = .ok (.iload_n 3, 1) := zk_of (zk_l (zk_l (zk_r (zk_l (zk_r zdX11_worth_0)))))
theorem dX11_worth_49 : decode cX11_worth 49 = .ok (.iload 4, 2) := zk_of (zk_r (zk_l (zk_r (zk_l (zk_r zdX11_worth_0)))))
theorem dX11_worth_51 : decode cX11_worth 51 = .ok (.iload 5, 2) := zk_of (zk_l (zk_r (zk_r (zk_l (zk_r zdX11_worth_0)))))
theorem dX11_worth_53 : decode cX11_worth 53 = .ok (.iload 6, 2) := zk_of (zk_r (zk_r (zk_r (zk_l (zk_r zdX11_worth_0)))))
theorem dX11_worth_55 : decode cX11_worth 55 = .ok (.iload 7, 2) := zk_of (zk_l (zk_l (zk_l (zk_r (zk_r zdX11_worth_0)))))
theorem dX11_worth_57 : decode cX11_worth 57 = .ok (.invokevirtual 157, 3) := zk_of (zk_r (zk_l (zk_l (zk_r (zk_r zdX11_worth_0)))))
theorem dX11_worth_60 : decode cX11_worth 60 = .ok (.aload_n 0, 1) := zk_of (zk_l (zk_r (zk_l (zk_r (zk_r zdX11_worth_0)))))
theorem dX11_worth_61 : decode cX11_worth 61 = .ok (.getfield 32, 3) := zk_of (zk_r (zk_r (zk_l (zk_r (zk_r zdX11_worth_0)))))
theorem dX11_worth_64 : decode cX11_worth 64 = .ok (.iload_n 1, 1) := zk_of (zk_l (zk_l (zk_r (zk_r (zk_r zdX11_worth_0)))))
theorem dX11_worth_65 : decode cX11_worth 65 = .ok (.invokevirtual 161, 3) := zk_of (zk_r (zk_l (zk_r (zk_r (zk_r zdX11_worth_0)))))
theorem dX11_worth_68 : decode cX11_worth 68 = .ok (.ireturn, 1) := zk_of (zk_r (zk_r (zk_r (zk_r zdX11_worth_0))))
set_option maxRecDepth 20000 in
theorem ggX11_worth_X8_has : GoodIn wsX11_worth wsX8_has := goodIn_r _ [8, 9, 67, 68, 69, 70, 71] rfl (by decide +kernel)
set_option maxRecDepth 20000 in
theorem gX11_worth_X8_has : GoodIn wsX11_worth (wsV RX11 146 RX8 yX8_has wsX8_has) := goodIn_app (goodIn_of _ (by decide +kernel)) ggX11_worth_X8_has
set_option maxRecDepth 20000 in
theorem ggX11_worth_X11_isAim : GoodIn wsX11_worth wsX11_isAim := goodIn_r _ [13, 14, 15, 12, 16] rfl (by decide +kernel)
set_option maxRecDepth 20000 in
theorem gX11_worth_X11_isAim : GoodIn wsX11_worth (va_wsS RX11 150 yX11_isAim wsX11_isAim) := goodIn_app (goodIn_of _ (by decide +kernel)) ggX11_worth_X11_isAim
set_option maxRecDepth 20000 in
theorem ggX11_worth_X11_within : GoodIn wsX11_worth wsX11_within := goodIn_r _ [16] rfl (by decide +kernel)
set_option maxRecDepth 20000 in
theorem gX11_worth_X11_within : GoodIn wsX11_worth (va_wsS RX11 107 yX11_within wsX11_within) := goodIn_app (goodIn_of _ (by decide +kernel)) ggX11_worth_X11_within
set_option maxRecDepth 20000 in
theorem ggX11_worth_X8_setAim : GoodIn wsX11_worth wsX8_setAim := goodIn_r _ [20, 21, 22, 23, 7, 24, 25, 67, 68, 69, 70, 71] rfl (by decide +kernel)
set_option maxRecDepth 20000 in
theorem gX11_worth_X8_setAim : GoodIn wsX11_worth (wsV RX11 157 RX8 yX8_setAim wsX8_setAim) := goodIn_app (goodIn_of _ (by decide +kernel)) ggX11_worth_X8_setAim
set_option maxRecDepth 20000 in
theorem ggX11_worth_X8_ask : GoodIn wsX11_worth wsX8_ask := goodIn_r _ [29, 30, 25, 31, 32, 5, 6, 7, 8, 9, 33, 34, 35, 36, 37, 38, 39, 40, 41, 42, 43, 44, 45, 46, 47, 48, 49, 50, 51, 52, 53, 67, 68, 69, 70, 71, 72] rfl (by decide +kernel)
set_option maxRecDepth 20000 in
theorem gX11_worth_X8_ask : GoodIn wsX11_worth (wsV RX11 161 RX8 yX8_ask wsX8_ask) := goodIn_app (goodIn_of _ (by decide +kernel)) ggX11_worth_X8_ask
/-- HissHorn.worth(IIIIIII)I of cell 0 -/
def rmX11_worth_0 : Room := { frames := 4, cells := 0, slots := 0, locals := 87 }
theorem hX11_worth_0_X11 : ∀ w ∈ u_ws RX11 TX11 13, w ∈ wsX11_worth := fun w h => (List.mem_cons_of_mem _ (List.mem_append_left _ (List.mem_append_left _ (List.mem_append_left _ (List.mem_append_right _ h)))))
theorem mX11_worth_0_1 : Cond.fieldLink RX11 32 "HissHorn" "laws" "LHissHorn$Shelf;" ∈ wsX11_worth := (List.mem_cons_of_mem _ (List.mem_append_left _ (List.mem_append_left _ (List.mem_append_left _ (List.mem_append_left _ (List.mem_append_left _ (List.mem_of_getElem? (i := 2) rfl)))))))
def GX11_worth_0_35  (u : SX) : Option (Int32 × SX) := none
def fX11_worth_0 (x1 : Int32) (x2 : Int32) (x3 : Int32) (x4 : Int32) (x5 : Int32) (x6 : Int32) (x7 : Int32) (u : SX) : Option (Int32 × SX) := ((fX8_has_3 x1 u).bind fun q => match q with | (r1, u2) => (if r1 = 0 then (GX11_worth_0_35 u2) else ((fX11_isAim x2 x3 x4 x6 x7).bind fun r4 => (if r4 = 0 then (GX11_worth_0_35 u2) else ((fX11_within x5 0 3).bind fun r7 => (if r7 = 0 then (GX11_worth_0_35 u2) else ((fX8_setAim_3 x2 x3 x4 x5 x6 x7 u2).bind fun q => match q with | (r10, u11) => ((fX8_ask_3 x1 u11).bind fun q => match q with | (r13, u14) => (some (r13, u14))))))))))
set_option maxHeartbeats 4000000 in
set_option maxRecDepth 100000 in
theorem wGX11_worth_0_35 {p : Program} {l : Launch} {e : Env} {s : State} {m : MethodId} {args : Array Value} {below : List Frame} {meth : Method} {c : Code} {D : va_G} {cy : Nat → ClassId} {ad st : Nat → Nat} (C : Cx RX11 cX11_worth 8 (some .int) wsX11_worth p s m args meth c) (hK : Ky D [(cy 0, .int), (cy 1, .long), (cy 2, .boolean), (cy 3, .byte), (cy 4, .object "HissHorn$Text")] st s) (hJ : JX ad st) {r : Int32} {u' : SX}   (u : SX) (H : Heap) (locs : List Loc) (ls : Array Slot) (h : GX11_worth_0_35  u = some (r, u')) (hP : va_P D vwCl (VX cy ad st u) H) (hS : va_S (Ax (AX ad) s.heap.size) s.heap H locs) (hl : lv_has ls 8 []) : W p l e rmX11_worth_0 s m args below meth c H locs 0 0 (MQ below (Qi D (VX cy ad st) (AX ad) s.heap.size r u') args s 0 0 (Ax (AX ad) s.heap.size)) (F0 m 35 ls []) := by
  unfold GX11_worth_0_35 at h
  exact absurd h (by intro q; cases q)
set_option maxHeartbeats 4000000 in
set_option maxRecDepth 100000 in
theorem wX11_worth_0 {p : Program} {l : Launch} {e : Env} {s : State} {m : MethodId} {args : Array Value} {below : List Frame} {meth : Method} {c : Code} {D : va_G} {cy : Nat → ClassId} {ad st : Nat → Nat} (C : Cx RX11 cX11_worth 8 (some .int) wsX11_worth p s m args meth c) (hK : Ky D [(cy 0, .int), (cy 1, .long), (cy 2, .boolean), (cy 3, .byte), (cy 4, .object "HissHorn$Text")] st s) (hJ : JX ad st) (x1 : Int32) (x2 : Int32) (x3 : Int32) (x4 : Int32) (x5 : Int32) (x6 : Int32) (x7 : Int32) {u : SX} {r : Int32} {u' : SX} {H : Heap} {locs : List Loc} {ls : Array Slot} (h : fX11_worth_0 x1 x2 x3 x4 x5 x6 x7 u = some (r, u')) (hP : va_P D vwCl (VX cy ad st u) H) (hS : va_S (Ax (AX ad) s.heap.size) s.heap H locs) (hl : lv_has ls 8 [(0, .ref (ad 0)), (1, .int x1), (2, .int x2), (3, .int x3), (4, .int x4), (5, .int x5), (6, .int x6), (7, .int x7)]) : W p l e rmX11_worth_0 s m args below meth c H locs 0 0 (MQ below (Qi D (VX cy ad st) (AX ad) s.heap.size r u') args s 0 0 (Ax (AX ad) s.heap.size)) (F0 m 0 ls []) := by
  unfold fX11_worth_0 at h
  refine lv_aload_n C.1 C.2.1 dX11_worth_0 rfl (lv_at hl 0 rfl) ?_
  refine gX_0_laws C hX11_worth_0_X11 hK hP mX11_worth_0_1 dX11_worth_1 ?_
  refine lv_iload_n C.1 C.2.1 dX11_worth_4 rfl (lv_at hl 1 rfl) ?_
  obtain ⟨⟨r1, u2⟩, hc3, h⟩ := bd_some h
  try dsimp only at h
  refine cg_i (As := [.int x1]) (rest := []) (AX_ge hJ) C hK hP hS (metX8_has_3 l D cy ad st hJ _ x1 hc3) (cwV 1 C.2.2.2.2.2.1 gX11_worth_X8_has rfl rfl rfl (by decide +kernel) ⟨(Nat.le_of_ble_eq_true rfl), (Nat.le_of_ble_eq_true rfl)⟩) 3 8 rfl rfl rfl hl.1 rfl (Nat.le_of_ble_eq_true rfl) dX11_worth_5 ⟨Nat.zero_le _, Nat.zero_le _⟩ (fun H locs hP hS => ?_)
  refine lv_if_eq (tgt := 35) C.1 C.2.1 dX11_worth_8 (by decide) (fun c8 => ?_) (fun c8 => ?_)
  · rw [if_pos c8] at h
    exact wGX11_worth_0_35 C hK hJ _ _ _ _ h hP hS (lv_sub hl [] rfl)
  · rw [if_neg c8] at h
    refine lv_iload_n C.1 C.2.1 dX11_worth_11 rfl (lv_at hl 2 rfl) ?_
    refine lv_iload_n C.1 C.2.1 dX11_worth_12 rfl (lv_at hl 3 rfl) ?_
    refine lv_iload C.1 C.2.1 dX11_worth_13 (lv_at hl 4 rfl) ?_
    refine lv_iload C.1 C.2.1 dX11_worth_15 (lv_at hl 6 rfl) ?_
    refine lv_iload C.1 C.2.1 dX11_worth_17 (lv_at hl 7 rfl) ?_
    obtain ⟨r4, hc6, h⟩ := bd_some h
    refine cs_i (As := [.int x2, .int x3, .int x4, .int x6, .int x7]) (rest := []) (AX_ge hJ) C hK hP hS (metX11_isAim l D cy st _ x2 x3 x4 x6 x7 hc6) (va_cwS 5 C.2.2.2.2.2.1 gX11_worth_X11_isAim rfl rfl rfl (by decide +kernel) ⟨(Nat.le_of_ble_eq_true rfl), (Nat.le_of_ble_eq_true rfl)⟩) rfl hl.1 rfl (Nat.le_of_ble_eq_true rfl) dX11_worth_19 ⟨Nat.zero_le _, Nat.zero_le _⟩ (fun H locs hP hS => ?_)
    refine lv_if_eq (tgt := 35) C.1 C.2.1 dX11_worth_22 (by decide) (fun c22 => ?_) (fun c22 => ?_)
    · rw [if_pos c22] at h
      exact wGX11_worth_0_35 C hK hJ _ _ _ _ h hP hS (lv_sub hl [] rfl)
    · rw [if_neg c22] at h
      refine lv_iload C.1 C.2.1 dX11_worth_25 (lv_at hl 5 rfl) ?_
      refine lv_iconst (v := 0) C.1 C.2.1 dX11_worth_27 (by decide) ?_
      refine lv_iconst (v := 3) C.1 C.2.1 dX11_worth_28 (by decide) ?_
      obtain ⟨r7, hc9, h⟩ := bd_some h
      refine cs_i (As := [.int x5, .int 0, .int 3]) (rest := []) (AX_ge hJ) C hK hP hS (metX11_within l D cy st _ x5 0 3 hc9) (va_cwS 3 C.2.2.2.2.2.1 gX11_worth_X11_within rfl rfl rfl (by decide +kernel) ⟨(Nat.le_of_ble_eq_true rfl), (Nat.le_of_ble_eq_true rfl)⟩) rfl hl.1 rfl (Nat.le_of_ble_eq_true rfl) dX11_worth_29 ⟨Nat.zero_le _, Nat.zero_le _⟩ (fun H locs hP hS => ?_)
      refine lv_if_ne (tgt := 43) C.1 C.2.1 dX11_worth_32 (by decide) (fun c32 => ?_) (fun c32 => ?_)
      · rw [if_neg c32] at h
        refine lv_aload_n C.1 C.2.1 dX11_worth_43 rfl (lv_at hl 0 rfl) ?_
        refine gX_0_laws C hX11_worth_0_X11 hK hP mX11_worth_0_1 dX11_worth_44 ?_
        refine lv_iload_n C.1 C.2.1 dX11_worth_47 rfl (lv_at hl 2 rfl) ?_
        refine lv_iload_n C.1 C.2.1 dX11_worth_48 rfl (lv_at hl 3 rfl) ?_
        refine lv_iload C.1 C.2.1 dX11_worth_49 (lv_at hl 4 rfl) ?_
        refine lv_iload C.1 C.2.1 dX11_worth_51 (lv_at hl 5 rfl) ?_
        refine lv_iload C.1 C.2.1 dX11_worth_53 (lv_at hl 6 rfl) ?_
        refine lv_iload C.1 C.2.1 dX11_worth_55 (lv_at hl 7 rfl) ?_
        obtain ⟨⟨r10, u11⟩, hc12, h⟩ := bd_some h
        try dsimp only at h
        refine cg_v (As := [.int x2, .int x3, .int x4, .int x5, .int x6, .int x7]) (rest := []) (AX_ge hJ) C hK hP hS (metX8_setAim_3 l D cy ad st hJ _ x2 x3 x4 x5 x6 x7 hc12) (cwV 6 C.2.2.2.2.2.1 gX11_worth_X8_setAim rfl rfl rfl (by decide +kernel) ⟨(Nat.le_of_ble_eq_true rfl), (Nat.le_of_ble_eq_true rfl)⟩) 3 8 rfl rfl rfl hl.1 rfl (Nat.le_of_ble_eq_true rfl) dX11_worth_57 ⟨Nat.zero_le _, Nat.zero_le _⟩ (fun H locs hP hS => ?_)
        refine lv_aload_n C.1 C.2.1 dX11_worth_60 rfl (lv_at hl 0 rfl) ?_
        refine gX_0_laws C hX11_worth_0_X11 hK hP mX11_worth_0_1 dX11_worth_61 ?_
        refine lv_iload_n C.1 C.2.1 dX11_worth_64 rfl (lv_at hl 1 rfl) ?_
        obtain ⟨⟨r13, u14⟩, hc15, h⟩ := bd_some h
        try dsimp only at h
        refine cg_i (As := [.int x1]) (rest := []) (AX_ge hJ) C hK hP hS (metX8_ask_3 l D cy ad st hJ _ x1 hc15) (cwV 1 C.2.2.2.2.2.1 gX11_worth_X8_ask rfl rfl rfl (by decide +kernel) ⟨(Nat.le_of_ble_eq_true rfl), (Nat.le_of_ble_eq_true rfl)⟩) 3 8 rfl rfl rfl hl.1 rfl (Nat.le_of_ble_eq_true rfl) dX11_worth_65 ⟨Nat.zero_le _, Nat.zero_le _⟩ (fun H locs hP hS => ?_)
        cases h
        exact rt_i C hP hS dX11_worth_68
      · rw [if_pos c32] at h
        exact wGX11_worth_0_35 C hK hJ _ _ _ _ h hP hS (lv_sub hl [] rfl)
theorem metX11_worth_0 (l : Launch) (D : va_G) (cy : Nat → ClassId) (ad st : Nat → Nat) (hJ : JX ad st) (sz : Nat) (x1 : Int32) (x2 : Int32) (x3 : Int32) (x4 : Int32) (x5 : Int32) (x6 : Int32) (x7 : Int32) {u : SX} {r : Int32} {u' : SX} (h : fX11_worth_0 x1 x2 x3 x4 x5 x6 x7 u = some (r, u')) : Met l yX11_worth wsX11_worth rmX11_worth_0 (va_Pc [.ref (ad 0), .int x1, .int x2, .int x3, .int x4, .int x5, .int x6, .int x7] (Px D [(cy 0, .int), (cy 1, .long), (cy 2, .boolean), (cy 3, .byte), (cy 4, .object "HissHorn$Text")] st (VX cy ad st) sz u)) (Qi D (VX cy ad st) (AX ad) sz r u') 0 0 (Ax (AX ad) sz) := by
  refine Met.ofW (cc := cX11_worth) (maxL := 8) (ret := (some .int)) (by decide) rfl ?_
  intro p e s m args below meth c s₁ B hml hv
  obtain ⟨rfl, hsz, hP, hK⟩ := hv
  subst hsz
  have C : Cx RX11 cX11_worth 8 (some .int) wsX11_worth p s m _ meth c := ⟨B.exec, B.bytes, hml, B.returns, findClass_of_methodNamed B.named, atoms_spec (ws := wsX11_worth) B.pre, B.notSynchronized⟩
  have hl := lv_entry ([.ref (ad 0), .int x1, .int x2, .int x3, .int x4, .int x5, .int x6, .int x7]) (n := 8) (Nat.le_of_ble_eq_true rfl)
  rw [lg_entry_eq]
  exact wX11_worth_0 C hK hJ x1 x2 x3 x4 x5 x6 x7 h hP va_S.rf hl

theorem zdX11_isLoudness_0 : (and (and (and (and (zk cX11_isLoudness 0 (.iload_n 0) 1) (zk cX11_isLoudness 1 (.ifCond .lt 19) 3)) (zk cX11_isLoudness 20 (.iconst 0) 1)) (and (and (zk cX11_isLoudness 21 (.ireturn) 1) (zk cX11_isLoudness 4 (.iload_n 1) 1)) (zk cX11_isLoudness 5 (.sipush 400) 3))) (and (and (and (zk cX11_isLoudness 8 (.if_icmp .gt 12) 3) (zk cX11_isLoudness 11 (.iload_n 0) 1)) (zk cX11_isLoudness 12 (.iload_n 1) 1)) (and (and (zk cX11_isLoudness 13 (.if_icmp .gt 7) 3) (zk cX11_isLoudness 16 (.iconst 1) 1)) (zk cX11_isLoudness 17 (.goto 4) 3)))) = true := by decide +kernel
theorem dX11_isLoudness_0 : decode cX11_isLoudness 0 = .ok (.iload_n 0, 1) := zk_of (zk_l (zk_l (zk_l (zk_l zdX11_isLoudness_0))))
theorem dX11_isLoudness_1 : decode cX11_isLoudness 1 = .ok (.ifCond .lt 19, 3) := zk_of (zk_r (zk_l (zk_l (zk_l zdX11_isLoudness_0))))
theorem dX11_isLoudness_20 : decode cX11_isLoudness 20 = .ok (.iconst 0, 1) := zk_of (zk_r (zk_l (zk_l zdX11_isLoudness_0)))
theorem dX11_isLoudness_21 : decode cX11_isLoudness 21 = .ok (.ireturn, 1) := zk_of (zk_l (zk_l (zk_r (zk_l zdX11_isLoudness_0))))
theorem dX11_isLoudness_4 : decode cX11_isLoudness 4 = .ok (.iload_n 1, 1) := zk_of (zk_r (zk_l (zk_r (zk_l zdX11_isLoudness_0))))
theorem dX11_isLoudness_5 : decode cX11_isLoudness 5 = .ok (.sipush 400, 3) := zk_of (zk_r (zk_r (zk_l zdX11_isLoudness_0)))
theorem dX11_isLoudness_8 : decode cX11_isLoudness 8 = .ok (.if_icmp .gt 12, 3) := zk_of (zk_l (zk_l (zk_l (zk_r zdX11_isLoudness_0))))
theorem dX11_isLoudness_11 : decode cX11_isLoudness 11 = .ok (.iload_n 0, 1) := zk_of (zk_r (zk_l (zk_l (zk_r zdX11_isLoudness_0))))
theorem dX11_isLoudness_12 : decode cX11_isLoudness 12 = .ok (.iload_n 1, 1) := zk_of (zk_r (zk_l (zk_r zdX11_isLoudness_0)))
theorem dX11_isLoudness_13 : decode cX11_isLoudness 13 = .ok (.if_icmp .gt 7, 3) := zk_of (zk_l (zk_l (zk_r (zk_r zdX11_isLoudness_0))))
theorem dX11_isLoudness_16 : decode cX11_isLoudness 16 = .ok (.iconst 1, 1) := zk_of (zk_r (zk_l (zk_r (zk_r zdX11_isLoudness_0))))
theorem dX11_isLoudness_17 : decode cX11_isLoudness 17 = .ok (.goto 4, 3) := zk_of (zk_r (zk_r (zk_r zdX11_isLoudness_0)))
/-- HissHorn.isLoudness(II)Z -/
def rmX11_isLoudness : Room := { frames := 0, cells := 0, slots := 0, locals := 0 }
def fX11_isLoudness (x0 : Int32) (x1 : Int32) : Option Int32 := (if x0 < 0 then (gd (isB 0) (some 0)) else (if 400 < x1 then (gd (isB 0) (some 0)) else (if x1 < x0 then (gd (isB 0) (some 0)) else (gd (isB 1) (some 1)))))
set_option maxHeartbeats 4000000 in
set_option maxRecDepth 100000 in
theorem wX11_isLoudness {p : Program} {l : Launch} {e : Env} {s : State} {m : MethodId} {args : Array Value} {below : List Frame} {meth : Method} {c : Code} {D : va_G} {cy : Nat → ClassId} {st : Nat → Nat} (C : Cx RX11 cX11_isLoudness 2 (some .boolean) wsX11_isLoudness p s m args meth c) (hK : Ky D [(cy 0, .int), (cy 1, .long), (cy 2, .boolean), (cy 3, .byte), (cy 4, .object "HissHorn$Text")] st s) (x0 : Int32) (x1 : Int32) {r : Int32} {H : Heap} {locs : List Loc} {ls : Array Slot} (h : fX11_isLoudness x0 x1 = some r) (hP : va_P D vwCl (V0 u00) H) (hS : va_S (Ax (A0) s.heap.size) s.heap H locs) (hl : lv_has ls 2 [(0, .int x0), (1, .int x1)]) : W p l e rmX11_isLoudness s m args below meth c H locs 0 0 (MQ below (Qi D (V0) (A0) s.heap.size r u00) args s 0 0 (Ax (A0) s.heap.size)) (F0 m 0 ls []) := by
  unfold fX11_isLoudness at h
  refine lv_iload_n C.1 C.2.1 dX11_isLoudness_0 rfl (lv_at hl 0 rfl) ?_
  refine lv_if_lt (tgt := 20) C.1 C.2.1 dX11_isLoudness_1 (by decide) (fun c1 => ?_) (fun c1 => ?_)
  · rw [if_pos c1] at h
    refine lv_iconst (v := 0) C.1 C.2.1 dX11_isLoudness_20 (by decide) ?_
    obtain ⟨hg1, h⟩ := gd_some h
    cases h
    exact rt_z hg1 C hP hS dX11_isLoudness_21
  · rw [if_neg c1] at h
    refine lv_iload_n C.1 C.2.1 dX11_isLoudness_4 rfl (lv_at hl 1 rfl) ?_
    refine lv_sipush (v := 400) C.1 C.2.1 dX11_isLoudness_5 (by decide) ?_
    refine lv_icmp_gt (tgt := 20) C.1 C.2.1 dX11_isLoudness_8 (by decide) (fun c8 => ?_) (fun c8 => ?_)
    · rw [if_pos c8] at h
      refine lv_iconst (v := 0) C.1 C.2.1 dX11_isLoudness_20 (by decide) ?_
      obtain ⟨hg2, h⟩ := gd_some h
      cases h
      exact rt_z hg2 C hP hS dX11_isLoudness_21
    · rw [if_neg c8] at h
      refine lv_iload_n C.1 C.2.1 dX11_isLoudness_11 rfl (lv_at hl 0 rfl) ?_
      refine lv_iload_n C.1 C.2.1 dX11_isLoudness_12 rfl (lv_at hl 1 rfl) ?_
      refine lv_icmp_gt (tgt := 20) C.1 C.2.1 dX11_isLoudness_13 (by decide) (fun c13 => ?_) (fun c13 => ?_)
      · rw [if_pos c13] at h
        refine lv_iconst (v := 0) C.1 C.2.1 dX11_isLoudness_20 (by decide) ?_
        obtain ⟨hg3, h⟩ := gd_some h
        cases h
        exact rt_z hg3 C hP hS dX11_isLoudness_21
      · rw [if_neg c13] at h
        refine lv_iconst (v := 1) C.1 C.2.1 dX11_isLoudness_16 (by decide) ?_
        refine lv_goto (tgt := 21) C.1 C.2.1 dX11_isLoudness_17 (by decide) ?_
        obtain ⟨hg4, h⟩ := gd_some h
        cases h
        exact rt_z hg4 C hP hS dX11_isLoudness_21
theorem metX11_isLoudness (l : Launch) (D : va_G) (cy : Nat → ClassId) (st : Nat → Nat) (sz : Nat) (x0 : Int32) (x1 : Int32) {r : Int32} (h : fX11_isLoudness x0 x1 = some r) : Met l yX11_isLoudness wsX11_isLoudness rmX11_isLoudness (va_Pc [.int x0, .int x1] (Px D [(cy 0, .int), (cy 1, .long), (cy 2, .boolean), (cy 3, .byte), (cy 4, .object "HissHorn$Text")] st V0 sz u00)) (Qi D V0 A0 sz r u00) 0 0 (Ax A0 sz) := by
  refine Met.ofW (cc := cX11_isLoudness) (maxL := 2) (ret := (some .boolean)) (by decide) rfl ?_
  intro p e s m args below meth c s₁ B hml hv
  obtain ⟨rfl, hsz, hP, hK⟩ := hv
  subst hsz
  have C : Cx RX11 cX11_isLoudness 2 (some .boolean) wsX11_isLoudness p s m _ meth c := ⟨B.exec, B.bytes, hml, B.returns, findClass_of_methodNamed B.named, atoms_spec (ws := wsX11_isLoudness) B.pre, B.notSynchronized⟩
  have hl := lv_entry ([.int x0, .int x1]) (n := 2) (Nat.le_of_ble_eq_true rfl)
  rw [lg_entry_eq]
  exact wX11_isLoudness C hK x0 x1 h hP va_S.rf hl

theorem zdX6_add_0 : (and (and (and (and (and (zk cX6_add 0 (.aload_n 0) 1) (zk cX6_add 1 (.getfield 49) 3)) (and (zk cX6_add 4 (.bipush 12) 2) (zk cX6_add 6 (.if_icmp .lt 5) 3))) (and (and (zk cX6_add 11 (.aload_n 0) 1) (zk cX6_add 12 (.getfield 9) 3)) (and (zk cX6_add 15 (.aload_n 0) 1) (zk cX6_add 16 (.getfield 49) 3)))) (and (and (and (zk cX6_add 19 (.iload_n 1) 1) (zk cX6_add 20 (.iastore) 1)) (and (zk cX6_add 21 (.aload_n 0) 1) (zk cX6_add 22 (.getfield 18) 3))) (and (and (zk cX6_add 25 (.aload_n 0) 1) (zk cX6_add 26 (.getfield 49) 3)) (and (zk cX6_add 29 (.iload 4) 2) (zk cX6_add 31 (.iastore) 1))))) (and (and (and (and (zk cX6_add 32 (.aload_n 0) 1) (zk cX6_add 33 (.getfield 27) 3)) (and (zk cX6_add 36 (.aload_n 0) 1) (zk cX6_add 37 (.getfield 49) 3))) (and (and (zk cX6_add 40 (.iload_n 2) 1) (zk cX6_add 41 (.iastore) 1)) (and (zk cX6_add 42 (.aload_n 0) 1) (zk cX6_add 43 (.getfield 30) 3)))) (and (and (and (zk cX6_add 46 (.aload_n 0) 1) (zk cX6_add 47 (.getfield 49) 3)) (and (zk cX6_add 50 (.iload_n 3) 1) (zk cX6_add 51 (.iastore) 1))) (and (and (zk cX6_add 52 (.aload_n 0) 1) (zk cX6_add 53 (.getfield 15) 3)) (and (zk cX6_add 56 (.aload_n 0) 1) (zk cX6_add 57 (.getfield 49) 3)))))) = true := by decide +kernel
theorem dX6_add_0 : decode cX6_add 0 = .ok (.aload_n 0, 1) := zk_of (zk_l (zk_l (zk_l (zk_l (zk_l zdX6_add_0)))))
theorem dX6_add_1 : decode cX6_add 1 = .ok (.getfield 49, 3) := zk_of (zk_r (zk_l (zk_l (zk_l (zk_l zdX6_add_0)))))
theorem dX6_add_4 : decode cX6_add 4 = .ok (.bipush 12, 2) := zk_of (zk_l (zk_r (zk_l (zk_l (zk_l zdX6_add_0)))))
theorem dX6_add_6 : decode cX6_add 6 = .ok (.if_icmp .lt 5, 3) := zk_of (zk_r (zk_r (zk_l (zk_l (zk_l zdX6_add_0)))))
theorem dX6_add_11 : decode cX6_add 11 = .ok (.aload_n 0, 1) := zk_of (zk_l (zk_l (zk_r (zk_l (zk_l zdX6_add_0)))))
theorem dX6_add_12 : decode cX6_add 12 = .ok (.getfield 9, 3) := zk_of (zk_r (zk_l (zk_r (zk_l (zk_l zdX6_add_0)))))
theorem dX6_add_15 : decode cX6_add 15 = .ok (.aload_n 0, 1) := zk_of (zk_l (zk_r (zk_r (zk_l (zk_l zdX6_add_0)))))
theorem dX6_add_16 : decode cX6_add 16 = .ok (.getfield 49, 3) := zk_of (zk_r (zk_r (zk_r (zk_l (zk_l zdX6_add_0)))))
theorem dX6_add_19 : decode cX6_add 19 = .ok (.iload_n 1, 1) := zk_of (zk_l (zk_l (zk_l (zk_r (zk_l zdX6_add_0)))))
theorem dX6_add_20 : decode cX6_add 20 = .ok (.iastore, 1) := zk_of (zk_r (zk_l (zk_l (zk_r (zk_l zdX6_add_0)))))
theorem dX6_add_21 : decode cX6_add 21 = .ok (.aload_n 0, 1) := zk_of (zk_l (zk_r (zk_l (zk_r (zk_l zdX6_add_0)))))
theorem dX6_add_22 : decode cX6_add 22 = .ok (.getfield 18, 3) := zk_of (zk_r (zk_r (zk_l (zk_r (zk_l zdX6_add_0)))))
theorem dX6_add_25 : decode cX6_add 25 = .ok (.aload_n 0, 1) := zk_of (zk_l (zk_l (zk_r (zk_r (zk_l zdX6_add_0)))))
theorem dX6_add_26 : decode cX6_add 26 = .ok (.getfield 49, 3) := zk_of (zk_r (zk_l (zk_r (zk_r (zk_l zdX6_add_0)))))
theorem dX6_add_29 : decode cX6_add 29 = .ok (.iload 4, 2) := zk_of (zk_l (zk_r (zk_r (zk_r (zk_l zdX6_add_0)))))
theorem dX6_add_31 : decode cX6_add 31 = .ok (.iastore, 1) := zk_of (zk_r (zk_r (zk_r (zk_r (zk_l zdX6_add_0)))))
theorem dX6_add_32 : decode cX6_add 32 = .ok (.aload_n 0, 1) := zk_of (zk_l (zk_l (zk_l (zk_l (zk_r zdX6_add_0)))))
theorem dX6_add_33 : decode cX6_add 33 = .ok (.getfield 27, 3) := zk_of (zk_r (zk_l (zk_l (zk_l (zk_r zdX6_add_0)))))
theorem dX6_add_36 : decode cX6_add 36 = .ok (.aload_n 0, 1) := zk_of (zk_l (zk_r (zk_l (zk_l (zk_r zdX6_add_0)))))
theorem dX6_add_37 : decode cX6_add 37 = .ok (.getfield 49, 3) := zk_of (zk_r (zk_r (zk_l (zk_l (zk_r zdX6_add_0)))))
theorem dX6_add_40 : decode cX6_add 40 = .ok (.iload_n 2, 1) := zk_of (zk_l (zk_l (zk_r (zk_l (zk_r zdX6_add_0)))))
theorem dX6_add_41 : decode cX6_add 41 = .ok (.iastore, 1) := zk_of (zk_r (zk_l (zk_r (zk_l (zk_r zdX6_add_0)))))
theorem dX6_add_42 : decode cX6_add 42 = .ok (.aload_n 0, 1) := zk_of (zk_l (zk_r (zk_r (zk_l (zk_r zdX6_add_0)))))
theorem dX6_add_43 : decode cX6_add 43 = .ok (.getfield 30, 3) := zk_of (zk_r (zk_r (zk_r (zk_l (zk_r zdX6_add_0)))))
theorem dX6_add_46 : decode cX6_add 46 = .ok (.aload_n 0, 1) := zk_of (zk_l (zk_l (zk_l (zk_r (zk_r zdX6_add_0)))))
theorem dX6_add_47 : decode cX6_add 47 = .ok (.getfield 49, 3) := zk_of (zk_r (zk_l (zk_l (zk_r (zk_r zdX6_add_0)))))
theorem dX6_add_50 : decode cX6_add 50 = .ok (.iload_n 3, 1) := zk_of (zk_l (zk_r (zk_l (zk_r (zk_r zdX6_add_0)))))
theorem dX6_add_51 : decode cX6_add 51 = .ok (.iastore, 1) := zk_of (zk_r (zk_r (zk_l (zk_r (zk_r zdX6_add_0)))))
theorem dX6_add_52 : decode cX6_add 52 = .ok (.aload_n 0, 1) := zk_of (zk_l (zk_l (zk_r (zk_r (zk_r zdX6_add_0)))))
theorem dX6_add_53 : decode cX6_add 53 = .ok (.getfield 15, 3) := zk_of (zk_r (zk_l (zk_r (zk_r (zk_r zdX6_add_0)))))
theorem dX6_add_56 : decode cX6_add 56 = .ok (.aload_n 0, 1) := zk_of (zk_l (zk_r (zk_r (zk_r (zk_r zdX6_add_0)))))
theorem dX6_add_57 : decode cX6_add 57 = .ok (.getfield 49, 3) := zk_of (zk_r (zk_r (zk_r (zk_r (zk_r zdX6_add_0)))))
theorem zdX6_add_60 : (and (and (and (and (zk cX6_add 60 (.iload 5) 2) (zk cX6_add 62 (.iastore) 1)) (and (zk cX6_add 63 (.aload_n 0) 1) (zk cX6_add 64 (.dup) 1))) (and (and (zk cX6_add 65 (.getfield 49) 3) (zk cX6_add 68 (.iconst 1) 1)) (and (zk cX6_add 69 (.iadd) 1) (zk cX6_add 70 (.putfield 49) 3)))) (and (and (and (zk cX6_add 73 (.aload_n 0) 1) (zk cX6_add 74 (.getfield 49) 3)) (and (zk cX6_add 77 (.iconst 1) 1) (zk cX6_add 78 (.isub) 1))) (and (and (zk cX6_add 79 (.ireturn) 1) (zk cX6_add 9 (.iconst (-1)) 1)) (zk cX6_add 10 (.ireturn) 1)))) = true := by decide +kernel
theorem dX6_add_60 : decode cX6_add 60 = .ok (.iload 5, 2) := zk_of (zk_l (zk_l (zk_l (zk_l zdX6_add_60))))
theorem dX6_add_62 : decode cX6_add 62 = .ok (.iastore, 1) := zk_of (zk_r (zk_l (zk_l (zk_l zdX6_add_60))))
theorem dX6_add_63 : decode cX6_add 63 = .ok (.aload_n 0, 1) := zk_of (zk_l (zk_r (zk_l (zk_l zdX6_add_60))))
theorem dX6_add_64 : decode cX6_add 64 = .ok (.dup, 1) := zk_of (zk_r (zk_r (zk_l (zk_l zdX6_add_60))))
theorem dX6_add_65 : decode cX6_add 65 = .ok (.getfield 49, 3) := zk_of (zk_l (zk_l (zk_r (zk_l zdX6_add_60))))
theorem dX6_add_68 : decode cX6_add 68 = .ok (.iconst 1, 1) := zk_of (zk_r (zk_l (zk_r (zk_l zdX6_add_60))))
theorem dX6_add_69 : decode cX6_add 69 = .ok (.iadd, 1) := zk_of (zk_l (zk_r (zk_r (zk_l zdX6_add_60))))
theorem dX6_add_70 : decode cX6_add 70 = .ok (.putfield 49, 3) := zk_of (zk_r (zk_r (zk_r (zk_l zdX6_add_60))))
theorem dX6_add_73 : decode cX6_add 73 = .ok (.aload_n 0, 1) := zk_of (zk_l (zk_l (zk_l (zk_r zdX6_add_60))))
theorem dX6_add_74 : decode cX6_add 74 = .ok (.getfield 49, 3) := zk_of (zk_r (zk_l (zk_l (zk_r zdX6_add_60))))
theorem dX6_add_77 : decode cX6_add 77 = .ok (.iconst 1, 1) := zk_of (zk_l (zk_r (zk_l (zk_r zdX6_add_60))))
theorem dX6_add_78 : decode cX6_add 78 = .ok (.isub, 1) := zk_of (zk_r (zk_r (zk_l (zk_r zdX6_add_60))))
theorem dX6_add_79 : decode cX6_add 79 = .ok (.ireturn, 1) := zk_of (zk_l (zk_l (zk_r (zk_r zdX6_add_60))))
theorem dX6_add_9 : decode cX6_add 9 = .ok (.iconst (-1), 1) := zk_of (zk_r (zk_l (zk_r (zk_r zdX6_add_60))))
theorem dX6_add_10 : decode cX6_add 10 = .ok (.ireturn, 1) := zk_of (zk_r (zk_r (zk_r zdX6_add_60)))
/-- HissHorn$Parts.add(IIIII)I of cell 6 -/
def rmX6_add_6 : Room := { frames := 0, cells := 0, slots := 0, locals := 0 }
theorem hX6_add_6_X6 : ∀ w ∈ u_ws RX6 TX6 17, w ∈ wsX6_add := fun w h => (List.mem_cons_of_mem _ (List.mem_append_right _ h))
theorem mX6_add_6_1 : Cond.fieldLink RX6 49 "HissHorn$Parts" "size" "I" ∈ wsX6_add := (List.mem_cons_of_mem _ (List.mem_append_left _ (List.mem_of_getElem? (i := 0) rfl)))
theorem mX6_add_6_2 : Cond.fieldLink RX6 9 "HissHorn$Parts" "law" "[I" ∈ wsX6_add := (List.mem_cons_of_mem _ (List.mem_append_left _ (List.mem_of_getElem? (i := 1) rfl)))
theorem mX6_add_6_3 : Cond.fieldLink RX6 18 "HissHorn$Parts" "truly" "[I" ∈ wsX6_add := (List.mem_cons_of_mem _ (List.mem_append_left _ (List.mem_of_getElem? (i := 2) rfl)))
theorem mX6_add_6_4 : Cond.fieldLink RX6 27 "HissHorn$Parts" "toldFrom" "[I" ∈ wsX6_add := (List.mem_cons_of_mem _ (List.mem_append_left _ (List.mem_of_getElem? (i := 3) rfl)))
theorem mX6_add_6_5 : Cond.fieldLink RX6 30 "HissHorn$Parts" "toldTo" "[I" ∈ wsX6_add := (List.mem_cons_of_mem _ (List.mem_append_left _ (List.mem_of_getElem? (i := 4) rfl)))
theorem mX6_add_6_6 : Cond.fieldLink RX6 15 "HissHorn$Parts" "day" "[I" ∈ wsX6_add := (List.mem_cons_of_mem _ (List.mem_append_left _ (List.mem_of_getElem? (i := 5) rfl)))
def fX6_add_6 (x1 : Int32) (x2 : Int32) (x3 : Int32) (x4 : Int32) (x5 : Int32) (u : SX) : Option (Int32 × SX) := (if (u.1 8) < 12 then (gd (inb (u.1 8) 12) (lt (sA u 24 (upd (u.2.1 24) (u.1 8).toNatClampNeg x1)) fun u2 => (gd (inb (u2.1 8) 12) (lt (sA u2 26 (upd (u2.2.1 26) (u2.1 8).toNatClampNeg x4)) fun u5 => (gd (inb (u5.1 8) 12) (lt (sA u5 29 (upd (u5.2.1 29) (u5.1 8).toNatClampNeg x2)) fun u8 => (gd (inb (u8.1 8) 12) (lt (sA u8 30 (upd (u8.2.1 30) (u8.1 8).toNatClampNeg x3)) fun u11 => (gd (inb (u11.1 8) 12) (lt (sA u11 25 (upd (u11.2.1 25) (u11.1 8).toNatClampNeg x5)) fun u14 => (lt (sI u14 8 ((u14.1 8) + 1)) fun u16 => (some ((u16.1 8) - 1, u16))))))))))))) else (some ((-1), u)))
set_option maxHeartbeats 4000000 in
set_option maxRecDepth 100000 in
theorem wX6_add_6 {p : Program} {l : Launch} {e : Env} {s : State} {m : MethodId} {args : Array Value} {below : List Frame} {meth : Method} {c : Code} {D : va_G} {cy : Nat → ClassId} {ad st : Nat → Nat} (C : Cx RX6 cX6_add 6 (some .int) wsX6_add p s m args meth c) (hK : Ky D [(cy 0, .int), (cy 1, .long), (cy 2, .boolean), (cy 3, .byte), (cy 4, .object "HissHorn$Text")] st s) (hJ : JX ad st) (x1 : Int32) (x2 : Int32) (x3 : Int32) (x4 : Int32) (x5 : Int32) {u : SX} {r : Int32} {u' : SX} {H : Heap} {locs : List Loc} {ls : Array Slot} (h : fX6_add_6 x1 x2 x3 x4 x5 u = some (r, u')) (hP : va_P D vwCl (VX cy ad st u) H) (hS : va_S (Ax (AX ad) s.heap.size) s.heap H locs) (hl : lv_has ls 6 [(0, .ref (ad 6)), (1, .int x1), (2, .int x2), (3, .int x3), (4, .int x4), (5, .int x5)]) : W p l e rmX6_add_6 s m args below meth c H locs 0 0 (MQ below (Qi D (VX cy ad st) (AX ad) s.heap.size r u') args s 0 0 (Ax (AX ad) s.heap.size)) (F0 m 0 ls []) := by
  unfold fX6_add_6 at h
  refine lv_aload_n C.1 C.2.1 dX6_add_0 rfl (lv_at hl 0 rfl) ?_
  refine gX_6_size C hX6_add_6_X6 hK hP mX6_add_6_1 dX6_add_1 ?_
  refine lv_bipush (v := 12) C.1 C.2.1 dX6_add_4 (by decide) ?_
  refine lv_icmp_lt (tgt := 11) C.1 C.2.1 dX6_add_6 (by decide) (fun c6 => ?_) (fun c6 => ?_)
  · rw [if_pos c6] at h
    refine lv_aload_n C.1 C.2.1 dX6_add_11 rfl (lv_at hl 0 rfl) ?_
    refine gX_6_law C hX6_add_6_X6 hK hP mX6_add_6_2 dX6_add_12 ?_
    refine lv_aload_n C.1 C.2.1 dX6_add_15 rfl (lv_at hl 0 rfl) ?_
    refine gX_6_size C hX6_add_6_X6 hK hP mX6_add_6_1 dX6_add_16 ?_
    refine lv_iload_n C.1 C.2.1 dX6_add_19 rfl (lv_at hl 1 rfl) ?_
    obtain ⟨hg1, h⟩ := gd_some h
    refine tX_24 C hK hP hJ hS hg1 dX6_add_20 (fun H locs hP hS => ?_)
    obtain ⟨u2, hu3, h⟩ := lt_some h
    rw [← hu3] at hP
    refine lv_aload_n C.1 C.2.1 dX6_add_21 rfl (lv_at hl 0 rfl) ?_
    refine gX_6_truly C hX6_add_6_X6 hK hP mX6_add_6_3 dX6_add_22 ?_
    refine lv_aload_n C.1 C.2.1 dX6_add_25 rfl (lv_at hl 0 rfl) ?_
    refine gX_6_size C hX6_add_6_X6 hK hP mX6_add_6_1 dX6_add_26 ?_
    refine lv_iload C.1 C.2.1 dX6_add_29 (lv_at hl 4 rfl) ?_
    obtain ⟨hg4, h⟩ := gd_some h
    refine tX_26 C hK hP hJ hS hg4 dX6_add_31 (fun H locs hP hS => ?_)
    obtain ⟨u5, hu6, h⟩ := lt_some h
    rw [← hu6] at hP
    refine lv_aload_n C.1 C.2.1 dX6_add_32 rfl (lv_at hl 0 rfl) ?_
    refine gX_6_toldFrom C hX6_add_6_X6 hK hP mX6_add_6_4 dX6_add_33 ?_
    refine lv_aload_n C.1 C.2.1 dX6_add_36 rfl (lv_at hl 0 rfl) ?_
    refine gX_6_size C hX6_add_6_X6 hK hP mX6_add_6_1 dX6_add_37 ?_
    refine lv_iload_n C.1 C.2.1 dX6_add_40 rfl (lv_at hl 2 rfl) ?_
    obtain ⟨hg7, h⟩ := gd_some h
    refine tX_29 C hK hP hJ hS hg7 dX6_add_41 (fun H locs hP hS => ?_)
    obtain ⟨u8, hu9, h⟩ := lt_some h
    rw [← hu9] at hP
    refine lv_aload_n C.1 C.2.1 dX6_add_42 rfl (lv_at hl 0 rfl) ?_
    refine gX_6_toldTo C hX6_add_6_X6 hK hP mX6_add_6_5 dX6_add_43 ?_
    refine lv_aload_n C.1 C.2.1 dX6_add_46 rfl (lv_at hl 0 rfl) ?_
    refine gX_6_size C hX6_add_6_X6 hK hP mX6_add_6_1 dX6_add_47 ?_
    refine lv_iload_n C.1 C.2.1 dX6_add_50 rfl (lv_at hl 3 rfl) ?_
    obtain ⟨hg10, h⟩ := gd_some h
    refine tX_30 C hK hP hJ hS hg10 dX6_add_51 (fun H locs hP hS => ?_)
    obtain ⟨u11, hu12, h⟩ := lt_some h
    rw [← hu12] at hP
    refine lv_aload_n C.1 C.2.1 dX6_add_52 rfl (lv_at hl 0 rfl) ?_
    refine gX_6_day C hX6_add_6_X6 hK hP mX6_add_6_6 dX6_add_53 ?_
    refine lv_aload_n C.1 C.2.1 dX6_add_56 rfl (lv_at hl 0 rfl) ?_
    refine gX_6_size C hX6_add_6_X6 hK hP mX6_add_6_1 dX6_add_57 ?_
    refine lv_iload C.1 C.2.1 dX6_add_60 (lv_at hl 5 rfl) ?_
    obtain ⟨hg13, h⟩ := gd_some h
    refine tX_25 C hK hP hJ hS hg13 dX6_add_62 (fun H locs hP hS => ?_)
    obtain ⟨u14, hu15, h⟩ := lt_some h
    rw [← hu15] at hP
    refine lv_aload_n C.1 C.2.1 dX6_add_63 rfl (lv_at hl 0 rfl) ?_
    refine lv_dup C.1 C.2.1 dX6_add_64 rfl ?_
    refine gX_6_size C hX6_add_6_X6 hK hP mX6_add_6_1 dX6_add_65 ?_
    refine lv_iconst (v := 1) C.1 C.2.1 dX6_add_68 (by decide) ?_
    refine lv_iadd C.1 C.2.1 dX6_add_69 ?_
    refine pX_6_size C hX6_add_6_X6 hK hP hJ hS mX6_add_6_1 dX6_add_70 (fun H locs hP hS => ?_)
    obtain ⟨u16, hu17, h⟩ := lt_some h
    rw [← hu17] at hP
    refine lv_aload_n C.1 C.2.1 dX6_add_73 rfl (lv_at hl 0 rfl) ?_
    refine gX_6_size C hX6_add_6_X6 hK hP mX6_add_6_1 dX6_add_74 ?_
    refine lv_iconst (v := 1) C.1 C.2.1 dX6_add_77 (by decide) ?_
    refine lv_isub C.1 C.2.1 dX6_add_78 ?_
    cases h
    exact rt_i C hP hS dX6_add_79
  · rw [if_neg c6] at h
    refine lv_iconst (v := (-1)) C.1 C.2.1 dX6_add_9 (by decide) ?_
    cases h
    exact rt_i C hP hS dX6_add_10
theorem metX6_add_6 (l : Launch) (D : va_G) (cy : Nat → ClassId) (ad st : Nat → Nat) (hJ : JX ad st) (sz : Nat) (x1 : Int32) (x2 : Int32) (x3 : Int32) (x4 : Int32) (x5 : Int32) {u : SX} {r : Int32} {u' : SX} (h : fX6_add_6 x1 x2 x3 x4 x5 u = some (r, u')) : Met l yX6_add wsX6_add rmX6_add_6 (va_Pc [.ref (ad 6), .int x1, .int x2, .int x3, .int x4, .int x5] (Px D [(cy 0, .int), (cy 1, .long), (cy 2, .boolean), (cy 3, .byte), (cy 4, .object "HissHorn$Text")] st (VX cy ad st) sz u)) (Qi D (VX cy ad st) (AX ad) sz r u') 0 0 (Ax (AX ad) sz) := by
  refine Met.ofW (cc := cX6_add) (maxL := 6) (ret := (some .int)) (by decide) rfl ?_
  intro p e s m args below meth c s₁ B hml hv
  obtain ⟨rfl, hsz, hP, hK⟩ := hv
  subst hsz
  have C : Cx RX6 cX6_add 6 (some .int) wsX6_add p s m _ meth c := ⟨B.exec, B.bytes, hml, B.returns, findClass_of_methodNamed B.named, atoms_spec (ws := wsX6_add) B.pre, B.notSynchronized⟩
  have hl := lv_entry ([.ref (ad 6), .int x1, .int x2, .int x3, .int x4, .int x5]) (n := 6) (Nat.le_of_ble_eq_true rfl)
  rw [lg_entry_eq]
  exact wX6_add_6 C hK hJ x1 x2 x3 x4 x5 h hP va_S.rf hl
