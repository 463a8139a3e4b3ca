theorem zdX11_part_0 : (and (and (and (and (and (zk cX11_part 0 (.aload_n 0) 1) (zk cX11_part 1 (.getfield 32) 3)) (and (zk cX11_part 4 (.iload_n 1) 1) (zk cX11_part 5 (.invokevirtual 146) 3))) (and (and (zk cX11_part 8 (.ifCond .eq 35) 3) (zk cX11_part 43 (.iconst (-1)) 1)) (and (zk cX11_part 44 (.ireturn) 1) (zk cX11_part 11 (.iload_n 2) 1)))) (and (and (and (zk cX11_part 12 (.iload_n 3) 1) (zk cX11_part 13 (.invokestatic 164) 3)) (and (zk cX11_part 16 (.ifCond .eq 27) 3) (zk cX11_part 19 (.iload 4) 2))) (and (and (zk cX11_part 21 (.iconst 0) 1) (zk cX11_part 22 (.sipush 400) 3)) (and (zk cX11_part 25 (.invokestatic 107) 3) (zk cX11_part 28 (.ifCond .eq 15) 3))))) (and (and (and (and (zk cX11_part 31 (.aload_n 0) 1) (zk cX11_part 32 (.getfield 49) 3)) (and (zk cX11_part 35 (.getfield 168) 3) (zk cX11_part 38 (.bipush 12) 2))) (and (and (zk cX11_part 40 (.if_icmp .lt 5) 3) (zk cX11_part 45 (.aload_n 0) 1)) (and (zk cX11_part 46 (.getfield 49) 3) (zk cX11_part 49 (.iload_n 1) 1)))) (and (and (and (zk cX11_part 50 (.iload_n 2) 1) (zk cX11_part 51 (.iload_n 3) 1)) (and (zk cX11_part 52 (.iload 4) 2) (zk cX11_part 54 (.aload_n 0) 1))) (and (and (zk cX11_part 55 (.getfield 103) 3) (zk cX11_part 58 (.invokevirtual 171) 3)) (zk cX11_part 61 (.ireturn) 1))))) = true := by decide +kernel
theorem dX11_part_0 : decode cX11_part 0 = .ok (.aload_n 0, 1) := zk_of (zk_l (zk_l (zk_l (zk_l (zk_l zdX11_part_0)))))
theorem dX11_part_1 : decode cX11_part 1 = .ok (.getfield 32, 3) := zk_of (zk_r (zk_l (zk_l (zk_l (zk_l zdX11_part_0)))))
theorem dX11_part_4 : decode cX11_part 4 = .ok (.iload_n 1, 1) := zk_of (zk_l (zk_r (zk_l (zk_l (zk_l zdX11_part_0)))))
theorem dX11_part_5 : decode cX11_part 5 = .ok (.invokevirtual 146, 3) := zk_of (zk_r (zk_r (zk_l (zk_l (zk_l zdX11_part_0)))))
theorem dX11_part_8 : decode cX11_part 8 = .ok (.ifCond .eq 35, 3) := zk_of (zk_l (zk_l (zk_r (zk_l (zk_l zdX11_part_0)))))
theorem dX11_part_43 : decode cX11_part 43 = .ok (.iconst (-1), 1) := zk_of (zk_r (zk_l (zk_r (zk_l (zk_l zdX11_part_0)))))
theorem dX11_part_44 : decode cX11_part 44 = .ok (.ireturn, 1) := zk_of (zk_l (zk_r (zk_r (zk_l (zk_l zdX11_part_0)))))
theorem dX11_part_11 : decode cX11_part 11 = .ok (.iload_n 2, 1) := zk_of (zk_r (zk_r (zk_r (zk_l (zk_l zdX11_part_0)))))
theorem dX11_part_12 : decode cX11_part 12 = .ok (.iload_n 3, 1) := zk_of (zk_l (zk_l (zk_l (zk_r (zk_l zdX11_part_0)))))
theorem dX11_part_13 : decode cX11_part 13 = .ok (.invokestatic 164, 3) := zk_of (zk_r (zk_l (zk_l (zk_r (zk_l zdX11_part_0)))))
theorem dX11_part_16 : decode cX11_part 16 = .ok (.ifCond .eq 27, 3) := zk_of (zk_l (zk_r (zk_l (zk_r (zk_l zdX11_part_0)))))
theorem dX11_part_19 : decode cX11_part 19 = .ok (.iload 4, 2) := zk_of (zk_r (zk_r (zk_l (zk_r (zk_l zdX11_part_0)))))
theorem dX11_part_21 : decode cX11_part 21 = .ok (.iconst 0, 1) := zk_of (zk_l (zk_l (zk_r (zk_r (zk_l zdX11_part_0)))))
theorem dX11_part_22 : decode cX11_part 22 = .ok (.sipush 400, 3) := zk_of (zk_r (zk_l (zk_r (zk_r (zk_l zdX11_part_0)))))
theorem dX11_part_25 : decode cX11_part 25 = .ok (.invokestatic 107, 3) := zk_of (zk_l (zk_r (zk_r (zk_r (zk_l zdX11_part_0)))))
theorem dX11_part_28 : decode cX11_part 28 = .ok (.ifCond .eq 15, 3) := zk_of (zk_r (zk_r (zk_r (zk_r (zk_l zdX11_part_0)))))
theorem dX11_part_31 : decode cX11_part 31 = .ok (.aload_n 0, 1) := zk_of (zk_l (zk_l (zk_l (zk_l (zk_r zdX11_part_0)))))
theorem dX11_part_32 : decode cX11_part 32 = .ok (.getfield 49, 3) := zk_of (zk_r (zk_l (zk_l (zk_l (zk_r zdX11_part_0)))))
theorem dX11_part_35 : decode cX11_part 35 = .ok (.getfield 168, 3) := zk_of (zk_l (zk_r (zk_l (zk_l (zk_r zdX11_part_0)))))
theorem dX11_part_38 : decode cX11_part 38 = .ok (.bipush 12, 2) := zk_of (zk_r (zk_r (zk_l (zk_l (zk_r zdX11_part_0)))))
theorem dX11_part_40 : decode cX11_part 40 = .ok (.if_icmp .lt 5, 3) := zk_of (zk_l (zk_l (zk_r (zk_l (zk_r zdX11_part_0)))))
theorem dX11_part_45 : decode cX11_part 45 = .ok (.aload_n 0, 1) := zk_of (zk_r (zk_l (zk_r (zk_l (zk_r zdX11_part_0)))))
theorem dX11_part_46 : decode cX11_part 46 = .ok (.getfield 49, 3) := zk_of (zk_l (zk_r (zk_r (zk_l (zk_r zdX11_part_0)))))
theorem dX11_part_49 : decode cX11_part 49 = .ok (.iload_n 1, 1) := zk_of (zk_r (zk_r (zk_r (zk_l (zk_r zdX11_part_0)))))
theorem dX11_part_50 : decode cX11_part 50 = .ok (.iload_n 2, 1) := zk_of (zk_l (zk_l (zk_l (zk_r (zk_r zdX11_part_0)))))
theorem dX11_part_51 : decode cX11_part 51 = .ok (.iload_n 3, 1) := zk_of (zk_r (zk_l (zk_l (zk_r (zk_r zdX11_part_0)))))
theorem dX11_part_52 : decode cX11_part 52 = .ok (.iload 4, 2) := zk_of (zk_l (zk_r (zk_l (zk_r (zk_r zdX11_part_0)))))
theorem dX11_part_54 : decode cX11_part 54 = .ok (.aload_n 0, 1) := zk_of (zk_r (zk_r (zk_l (zk_r (zk_r zdX11_part_0)))))
theorem dX11_part_55 : decode cX11_part 55 = .ok (.getfield 103, 3) := zk_of (zk_l (zk_l (zk_r (zk_r (zk_r zdX11_part_0)))))
theorem dX11_part_58 : decode cX11_part 58 = .ok (.invokevirtual 171, 3) := zk_of (zk_r (zk_l (zk_r (zk_r (zk_r zdX11_part_0)))))
theorem dX11_part_61 : decode cX11_part 61 = .ok (.ireturn, 1) := zk_of (zk_r (zk_r (zk_r (zk_r zdX11_part_0))))
set_option maxRecDepth 20000 in
theorem ggX11_part_X8_has : GoodIn wsX11_part wsX8_has := ggi (fun w h => List.mem_cons_of_mem _ (List.mem_append_left _ (List.mem_append_left _ (List.mem_append_left _ (List.mem_append_right _ (List.mem_append_left _ h)))))) gs_X8_has
set_option maxRecDepth 20000 in
theorem gX11_part_X8_has : GoodIn wsX11_part (wsV RX11 146 RX8 yX8_has wsX8_has) := goodIn_app (goodIn_of _ (by decide +kernel)) ggX11_part_X8_has
set_option maxRecDepth 20000 in
theorem ggX11_part_X11_isLoudness : GoodIn wsX11_part wsX11_isLoudness := ggi (fun w h => List.mem_cons_of_mem _ (List.mem_append_left _ (List.mem_append_left _ (List.mem_append_left _ (List.mem_append_right _ (List.mem_append_right _ (List.mem_append_left _ h))))))) gs_X11_isLoudness
set_option maxRecDepth 20000 in
theorem gX11_part_X11_isLoudness : GoodIn wsX11_part (va_wsS RX11 164 yX11_isLoudness wsX11_isLoudness) := goodIn_app (goodIn_of _ (by decide +kernel)) ggX11_part_X11_isLoudness
set_option maxRecDepth 20000 in
theorem ggX11_part_X11_within : GoodIn wsX11_part wsX11_within := ggi (fun w h => List.mem_cons_of_mem _ (List.mem_append_left _ (List.mem_append_left _ (List.mem_append_left _ (List.mem_append_right _ (List.mem_append_right _ (List.mem_append_right _ (List.mem_append_left _ h)))))))) gs_X11_within
set_option maxRecDepth 20000 in
theorem gX11_part_X11_within : GoodIn wsX11_part (va_wsS RX11 107 yX11_within wsX11_within) := goodIn_app (goodIn_of _ (by decide +kernel)) ggX11_part_X11_within
set_option maxRecDepth 20000 in
theorem ggX11_part_X6_add : GoodIn wsX11_part wsX6_add := ggi (fun w h => List.mem_cons_of_mem _ (List.mem_append_left _ (List.mem_append_left _ (List.mem_append_left _ (List.mem_append_right _ (List.mem_append_right _ (List.mem_append_right _ (List.mem_append_right _ h)))))))) gs_X6_add
set_option maxRecDepth 20000 in
theorem gX11_part_X6_add : GoodIn wsX11_part (wsV RX11 171 RX6 yX6_add wsX6_add) := goodIn_app (goodIn_of _ (by decide +kernel)) ggX11_part_X6_add
/-- HissHorn.part(IIII)I of cell 0 -/
def rmX11_part_0 : Room := { frames := 1, cells := 0, slots := 0, locals := 25 }
theorem hX11_part_0_X11 : ∀ w ∈ u_ws RX11 TX11 13, w ∈ wsX11_part := fun w h => (List.mem_cons_of_mem _ (List.mem_append_left _ (List.mem_append_left _ (List.mem_append_right _ h))))
theorem mX11_part_0_1 : Cond.fieldLink RX11 32 "HissHorn" "laws" "LHissHorn$Shelf;" ∈ wsX11_part := (List.mem_cons_of_mem _ (List.mem_append_left _ (List.mem_append_left _ (List.mem_append_left _ (List.mem_append_left _ (List.mem_of_getElem? (i := 13) rfl))))))
theorem mX11_part_0_2 : Cond.fieldLink RX11 49 "HissHorn" "parts" "LHissHorn$Parts;" ∈ wsX11_part := (List.mem_cons_of_mem _ (List.mem_append_left _ (List.mem_append_left _ (List.mem_append_left _ (List.mem_append_left _ (List.mem_of_getElem? (i := 14) rfl))))))
theorem hX11_part_0_X6 : ∀ w ∈ u_ws RX6 TX6 17, w ∈ wsX11_part := fun w h => (List.mem_cons_of_mem _ (List.mem_append_left _ (List.mem_append_right _ h)))
theorem mX11_part_0_4 : Cond.fieldLink RX11 168 "HissHorn$Parts" "size" "I" ∈ wsX11_part := (List.mem_cons_of_mem _ (List.mem_append_left _ (List.mem_append_left _ (List.mem_append_left _ (List.mem_append_left _ (List.mem_of_getElem? (i := 15) rfl))))))
theorem mX11_part_0_5 : Cond.fieldLink RX11 103 "HissHorn" "now" "I" ∈ wsX11_part := (List.mem_cons_of_mem _ (List.mem_append_left _ (List.mem_append_left _ (List.mem_append_left _ (List.mem_append_left _ (List.mem_of_getElem? (i := 16) rfl))))))
def fX11_part_0 (x1 : Int32) (x2 : Int32) (x3 : Int32) (x4 : Int32) (u : SX) : Option (Int32 × SX) := ((fX8_has_3 x1 u).bind fun q => match q with | (r1, u2) => (if r1 = 0 then (some ((-1), u2)) else ((fX11_isLoudness x2 x3).bind fun r4 => (if r4 = 0 then (some ((-1), u2)) else ((fX11_within x4 0 400).bind fun r7 => (if r7 = 0 then (some ((-1), u2)) else (if (u2.1 8) < 12 then ((fX6_add_6 x1 x2 x3 x4 (u2.1 0) u2).bind fun q => match q with | (r10, u11) => (some (r10, u11))) else (some ((-1), u2)))))))))
set_option maxHeartbeats 4000000 in
set_option maxRecDepth 100000 in
theorem wX11_part_0 {p : Program} {l : Launch} {e : Env} {s : State} {m : MethodId} {args : Array Value} {below : List Frame} {meth : Method} {c : Code} {D : va_G} {cy : Nat → ClassId} {ad st : Nat → Nat} (C : Cx RX11 cX11_part 5 (some .int) wsX11_part p s m args meth c) (hK : Ky D [(cy 0, .int), (cy 1, .long), (cy 2, .boolean), (cy 3, .byte), (cy 4, .object "HissHorn$Text")] st s) (hJ : JX ad st) (x1 : Int32) (x2 : Int32) (x3 : Int32) (x4 : Int32) {u : SX} {r : Int32} {u' : SX} {H : Heap} {locs : List Loc} {ls : Array Slot} (h : fX11_part_0 x1 x2 x3 x4 u = some (r, u')) (hP : va_P D vwCl (VX cy ad st u) H) (hS : va_S (Ax (AX ad) s.heap.size) s.heap H locs) (hl : lv_has ls 5 [(0, .ref (ad 0)), (1, .int x1), (2, .int x2), (3, .int x3), (4, .int x4)]) : W p l e rmX11_part_0 s m args below meth c H locs 0 0 (MQ below (Qi D (VX cy ad st) (AX ad) s.heap.size r u') args s 0 0 (Ax (AX ad) s.heap.size)) (F0 m 0 ls []) := by
  unfold fX11_part_0 at h
  refine lv_aload_n C.1 C.2.1 dX11_part_0 rfl (lv_at hl 0 rfl) ?_
  refine gX_0_laws C hX11_part_0_X11 hK hP mX11_part_0_1 dX11_part_1 ?_
  refine lv_iload_n C.1 C.2.1 dX11_part_4 rfl (lv_at hl 1 rfl) ?_
  obtain ⟨⟨r1, u2⟩, hc3, h⟩ := bd_some h
  try dsimp only at h
  refine cg_i (As := [.int x1]) (rest := []) (AX_ge hJ) C hK hP hS (metX8_has_3 l D cy ad st hJ _ x1 hc3) (cwV 1 C.2.2.2.2.2.1 gX11_part_X8_has rfl rfl rfl (by decide +kernel) ⟨(Nat.le_of_ble_eq_true rfl), (Nat.le_of_ble_eq_true rfl)⟩) 3 8 rfl rfl rfl hl.1 rfl (Nat.le_of_ble_eq_true rfl) dX11_part_5 ⟨Nat.zero_le _, Nat.zero_le _⟩ (fun H locs hP hS => ?_)
  refine lv_if_eq (tgt := 43) C.1 C.2.1 dX11_part_8 (by decide) (fun c8 => ?_) (fun c8 => ?_)
  · rw [if_pos c8] at h
    refine lv_iconst (v := (-1)) C.1 C.2.1 dX11_part_43 (by decide) ?_
    cases h
    exact rt_i C hP hS dX11_part_44
  · rw [if_neg c8] at h
    refine lv_iload_n C.1 C.2.1 dX11_part_11 rfl (lv_at hl 2 rfl) ?_
    refine lv_iload_n C.1 C.2.1 dX11_part_12 rfl (lv_at hl 3 rfl) ?_
    obtain ⟨r4, hc6, h⟩ := bd_some h
    refine cs_i (As := [.int x2, .int x3]) (rest := []) (AX_ge hJ) C hK hP hS (metX11_isLoudness l D cy st _ x2 x3 hc6) (va_cwS 2 C.2.2.2.2.2.1 gX11_part_X11_isLoudness rfl rfl rfl (by decide +kernel) ⟨(Nat.le_of_ble_eq_true rfl), (Nat.le_of_ble_eq_true rfl)⟩) rfl hl.1 rfl (Nat.le_of_ble_eq_true rfl) dX11_part_13 ⟨Nat.zero_le _, Nat.zero_le _⟩ (fun H locs hP hS => ?_)
    refine lv_if_eq (tgt := 43) C.1 C.2.1 dX11_part_16 (by decide) (fun c16 => ?_) (fun c16 => ?_)
    · rw [if_pos c16] at h
      refine lv_iconst (v := (-1)) C.1 C.2.1 dX11_part_43 (by decide) ?_
      cases h
      exact rt_i C hP hS dX11_part_44
    · rw [if_neg c16] at h
      refine lv_iload C.1 C.2.1 dX11_part_19 (lv_at hl 4 rfl) ?_
      refine lv_iconst (v := 0) C.1 C.2.1 dX11_part_21 (by decide) ?_
      refine lv_sipush (v := 400) C.1 C.2.1 dX11_part_22 (by decide) ?_
      obtain ⟨r7, hc9, h⟩ := bd_some h
      refine cs_i (As := [.int x4, .int 0, .int 400]) (rest := []) (AX_ge hJ) C hK hP hS (metX11_within l D cy st _ x4 0 400 hc9) (va_cwS 3 C.2.2.2.2.2.1 gX11_part_X11_within rfl rfl rfl (by decide +kernel) ⟨(Nat.le_of_ble_eq_true rfl), (Nat.le_of_ble_eq_true rfl)⟩) rfl hl.1 rfl (Nat.le_of_ble_eq_true rfl) dX11_part_25 ⟨Nat.zero_le _, Nat.zero_le _⟩ (fun H locs hP hS => ?_)
      refine lv_if_eq (tgt := 43) C.1 C.2.1 dX11_part_28 (by decide) (fun c28 => ?_) (fun c28 => ?_)
      · rw [if_pos c28] at h
        refine lv_iconst (v := (-1)) C.1 C.2.1 dX11_part_43 (by decide) ?_
        cases h
        exact rt_i C hP hS dX11_part_44
      · rw [if_neg c28] at h
        refine lv_aload_n C.1 C.2.1 dX11_part_31 rfl (lv_at hl 0 rfl) ?_
        refine gX_0_parts C hX11_part_0_X11 hK hP mX11_part_0_2 dX11_part_32 ?_
        refine gX_6_size C hX11_part_0_X6 hK hP mX11_part_0_4 dX11_part_35 ?_
        refine lv_bipush (v := 12) C.1 C.2.1 dX11_part_38 (by decide) ?_
        refine lv_icmp_lt (tgt := 45) C.1 C.2.1 dX11_part_40 (by decide) (fun c40 => ?_) (fun c40 => ?_)
        · rw [if_pos c40] at h
          refine lv_aload_n C.1 C.2.1 dX11_part_45 rfl (lv_at hl 0 rfl) ?_
          refine gX_0_parts C hX11_part_0_X11 hK hP mX11_part_0_2 dX11_part_46 ?_
          refine lv_iload_n C.1 C.2.1 dX11_part_49 rfl (lv_at hl 1 rfl) ?_
          refine lv_iload_n C.1 C.2.1 dX11_part_50 rfl (lv_at hl 2 rfl) ?_
          refine lv_iload_n C.1 C.2.1 dX11_part_51 rfl (lv_at hl 3 rfl) ?_
          refine lv_iload C.1 C.2.1 dX11_part_52 (lv_at hl 4 rfl) ?_
          refine lv_aload_n C.1 C.2.1 dX11_part_54 rfl (lv_at hl 0 rfl) ?_
          refine gX_0_now C hX11_part_0_X11 hK hP mX11_part_0_5 dX11_part_55 ?_
          obtain ⟨⟨r10, u11⟩, hc12, h⟩ := bd_some h
          try dsimp only at h
          refine cg_i (As := [.int x1, .int x2, .int x3, .int x4, .int (u2.1 0)]) (rest := []) (AX_ge hJ) C hK hP hS (metX6_add_6 l D cy ad st hJ _ x1 x2 x3 x4 (u2.1 0) hc12) (cwV 5 C.2.2.2.2.2.1 gX11_part_X6_add rfl rfl rfl (by decide +kernel) ⟨(Nat.le_of_ble_eq_true rfl), (Nat.le_of_ble_eq_true rfl)⟩) 6 6 rfl rfl rfl hl.1 rfl (Nat.le_of_ble_eq_true rfl) dX11_part_58 ⟨Nat.zero_le _, Nat.zero_le _⟩ (fun H locs hP hS => ?_)
          cases h
          exact rt_i C hP hS dX11_part_61
        · rw [if_neg c40] at h
          refine lv_iconst (v := (-1)) C.1 C.2.1 dX11_part_43 (by decide) ?_
          cases h
          exact rt_i C hP hS dX11_part_44
theorem metX11_part_0 (l : Launch) (D : va_G) (cy : Nat → ClassId) (ad st : Nat → Nat) (hJ : JX ad st) (sz : Nat) (x1 : Int32) (x2 : Int32) (x3 : Int32) (x4 : Int32) {u : SX} {r : Int32} {u' : SX} (h : fX11_part_0 x1 x2 x3 x4 u = some (r, u')) : Met l yX11_part wsX11_part rmX11_part_0 (va_Pc [.ref (ad 0), .int x1, .int x2, .int x3, .int x4] (Px D [(cy 0, .int), (cy 1, .long), (cy 2, .boolean), (cy 3, .byte), (cy 4, .object "HissHorn$Text")] st (VX cy ad st) sz u)) (Qi D (VX cy ad st) (AX ad) sz r u') 0 0 (Ax (AX ad) sz) := by
  refine Met.ofW (cc := cX11_part) (maxL := 5) (ret := (some .int)) (by decide) rfl ?_
  intro p e s m args below meth c s₁ B hml hv
  obtain ⟨rfl, hsz, hP, hK⟩ := hv
  subst hsz
  have C : Cx RX11 cX11_part 5 (some .int) wsX11_part p s m _ meth c := ⟨B.exec, B.bytes, hml, B.returns, findClass_of_methodNamed B.named, atoms_spec (ws := wsX11_part) B.pre, B.notSynchronized⟩
  have hl := lv_entry ([.ref (ad 0), .int x1, .int x2, .int x3, .int x4]) (n := 5) (Nat.le_of_ble_eq_true rfl)
  rw [lg_entry_eq]
  exact wX11_part_0 C hK hJ x1 x2 x3 x4 h hP va_S.rf hl

theorem zdX11_isDay_0 : (and (and (and (zk cX11_isDay 0 (.iload_n 1) 1) (zk cX11_isDay 1 (.iconst 0) 1)) (zk cX11_isDay 2 (.aload_n 0) 1)) (and (and (zk cX11_isDay 3 (.getfield 103) 3) (zk cX11_isDay 6 (.invokestatic 107) 3)) (zk cX11_isDay 9 (.ireturn) 1))) = true := by decide +kernel
theorem dX11_isDay_0 : decode cX11_isDay 0 = .ok (.iload_n 1, 1) := zk_of (zk_l (zk_l (zk_l zdX11_isDay_0)))
theorem dX11_isDay_1 : decode cX11_isDay 1 = .ok (.iconst 0, 1) := zk_of (zk_r (zk_l (zk_l zdX11_isDay_0)))
theorem dX11_isDay_2 : decode cX11_isDay 2 = .ok (.aload_n 0, 1) := zk_of (zk_r (zk_l zdX11_isDay_0))
theorem dX11_isDay_3 : decode cX11_isDay 3 = .ok (.getfield 103, 3) := zk_of (zk_l (zk_l (zk_r zdX11_isDay_0)))
theorem dX11_isDay_6 : decode cX11_isDay 6 = .ok (.invokestatic 107, 3) := zk_of (zk_r (zk_l (zk_r zdX11_isDay_0)))
theorem dX11_isDay_9 : decode cX11_isDay 9 = .ok (.ireturn, 1) := zk_of (zk_r (zk_r zdX11_isDay_0))
set_option maxRecDepth 20000 in
theorem ggX11_isDay_X11_within : GoodIn wsX11_isDay wsX11_within := ggi (fun w h => List.mem_cons_of_mem _ (List.mem_append_left _ (List.mem_append_right _ h))) gs_X11_within
set_option maxRecDepth 20000 in
theorem gX11_isDay_X11_within : GoodIn wsX11_isDay (va_wsS RX11 107 yX11_within wsX11_within) := goodIn_app (goodIn_of _ (by decide +kernel)) ggX11_isDay_X11_within
/-- HissHorn.isDay(I)Z of cell 0 -/
def rmX11_isDay_0 : Room := { frames := 1, cells := 0, slots := 0, locals := 22 }
theorem hX11_isDay_0_X11 : ∀ w ∈ u_ws RX11 TX11 13, w ∈ wsX11_isDay := fun w h => (List.mem_cons_of_mem _ (List.mem_append_right _ h))
theorem mX11_isDay_0_1 : Cond.fieldLink RX11 103 "HissHorn" "now" "I" ∈ wsX11_isDay := (List.mem_cons_of_mem _ (List.mem_append_left _ (List.mem_append_left _ (List.mem_of_getElem? (i := 3) rfl))))
def fX11_isDay_0 (x1 : Int32) (u : SX) : Option (Int32 × SX) := ((fX11_within x1 0 (u.1 0)).bind fun r1 => (gd (isB r1) (some (r1, u))))
set_option maxHeartbeats 4000000 in
set_option maxRecDepth 100000 in
theorem wX11_isDay_0 {p : Program} {l : Launch} {e : Env} {s : State} {m : MethodId} {args : Array Value} {below : List Frame} {meth : Method} {c : Code} {D : va_G} {cy : Nat → ClassId} {ad st : Nat → Nat} (C : Cx RX11 cX11_isDay 2 (some .boolean) wsX11_isDay p s m args meth c) (hK : Ky D [(cy 0, .int), (cy 1, .long), (cy 2, .boolean), (cy 3, .byte), (cy 4, .object "HissHorn$Text")] st s) (hJ : JX ad st) (x1 : Int32) {u : SX} {r : Int32} {u' : SX} {H : Heap} {locs : List Loc} {ls : Array Slot} (h : fX11_isDay_0 x1 u = some (r, u')) (hP : va_P D vwCl (VX cy ad st u) H) (hS : va_S (Ax (AX ad) s.heap.size) s.heap H locs) (hl : lv_has ls 2 [(0, .ref (ad 0)), (1, .int x1)]) : W p l e rmX11_isDay_0 s m args below meth c H locs 0 0 (MQ below (Qi D (VX cy ad st) (AX ad) s.heap.size r u') args s 0 0 (Ax (AX ad) s.heap.size)) (F0 m 0 ls []) := by
  unfold fX11_isDay_0 at h
  refine lv_iload_n C.1 C.2.1 dX11_isDay_0 rfl (lv_at hl 1 rfl) ?_
  refine lv_iconst (v := 0) C.1 C.2.1 dX11_isDay_1 (by decide) ?_
  refine lv_aload_n C.1 C.2.1 dX11_isDay_2 rfl (lv_at hl 0 rfl) ?_
  refine gX_0_now C hX11_isDay_0_X11 hK hP mX11_isDay_0_1 dX11_isDay_3 ?_
  obtain ⟨r1, hc3, h⟩ := bd_some h
  refine cs_i (As := [.int x1, .int 0, .int (u.1 0)]) (rest := []) (AX_ge hJ) C hK hP hS (metX11_within l D cy st _ x1 0 (u.1 0) hc3) (va_cwS 3 C.2.2.2.2.2.1 gX11_isDay_X11_within rfl rfl rfl (by decide +kernel) ⟨(Nat.le_of_ble_eq_true rfl), (Nat.le_of_ble_eq_true rfl)⟩) rfl hl.1 rfl (Nat.le_of_ble_eq_true rfl) dX11_isDay_6 ⟨Nat.zero_le _, Nat.zero_le _⟩ (fun H locs hP hS => ?_)
  obtain ⟨hg4, h⟩ := gd_some h
  cases h
  exact rt_z hg4 C hP hS dX11_isDay_9
theorem metX11_isDay_0 (l : Launch) (D : va_G) (cy : Nat → ClassId) (ad st : Nat → Nat) (hJ : JX ad st) (sz : Nat) (x1 : Int32) {u : SX} {r : Int32} {u' : SX} (h : fX11_isDay_0 x1 u = some (r, u')) : Met l yX11_isDay wsX11_isDay rmX11_isDay_0 (va_Pc [.ref (ad 0), .int x1] (Px D [(cy 0, .int), (cy 1, .long), (cy 2, .boolean), (cy 3, .byte), (cy 4, .object "HissHorn$Text")] st (VX cy ad st) sz u)) (Qi D (VX cy ad st) (AX ad) sz r u') 0 0 (Ax (AX ad) sz) := by
  refine Met.ofW (cc := cX11_isDay) (maxL := 2) (ret := (some .boolean)) (by decide) rfl ?_
  intro p e s m args below meth c s₁ B hml hv
  obtain ⟨rfl, hsz, hP, hK⟩ := hv
  subst hsz
  have C : Cx RX11 cX11_isDay 2 (some .boolean) wsX11_isDay p s m _ meth c := ⟨B.exec, B.bytes, hml, B.returns, findClass_of_methodNamed B.named, atoms_spec (ws := wsX11_isDay) B.pre, B.notSynchronized⟩
  have hl := lv_entry ([.ref (ad 0), .int x1]) (n := 2) (Nat.le_of_ble_eq_true rfl)
  rw [lg_entry_eq]
  exact wX11_isDay_0 C hK hJ x1 h hP va_S.rf hl

theorem zdX11_isEither_0 : (and (and (and (and (zk cX11_isEither 0 (.iload_n 0) 1) (zk cX11_isEither 1 (.ifCond .eq 8) 3)) (zk cX11_isEither 9 (.iconst 1) 1)) (and (zk cX11_isEither 10 (.goto 4) 3) (zk cX11_isEither 14 (.ireturn) 1))) (and (and (zk cX11_isEither 4 (.iload_n 0) 1) (zk cX11_isEither 5 (.iconst 1) 1)) (and (zk cX11_isEither 6 (.if_icmp .ne 7) 3) (zk cX11_isEither 13 (.iconst 0) 1)))) = true := by decide +kernel
theorem dX11_isEither_0 : decode cX11_isEither 0 = .ok (.iload_n 0, 1) := zk_of (zk_l (zk_l (zk_l (zk_l zdX11_isEither_0))))
theorem dX11_isEither_1 : decode cX11_isEither 1 = .ok (.ifCond .eq 8, 3) := zk_of (zk_r (zk_l (zk_l (zk_l zdX11_isEither_0))))
theorem dX11_isEither_9 : decode cX11_isEither 9 = .ok (.iconst 1, 1) := zk_of (zk_r (zk_l (zk_l zdX11_isEither_0)))
theorem dX11_isEither_10 : decode cX11_isEither 10 = .ok (.goto 4, 3) := zk_of (zk_l (zk_r (zk_l zdX11_isEither_0)))
theorem dX11_isEither_14 : decode cX11_isEither 14 = .ok (.ireturn, 1) := zk_of (zk_r (zk_r (zk_l zdX11_isEither_0)))
theorem dX11_isEither_4 : decode cX11_isEither 4 = .ok (.iload_n 0, 1) := zk_of (zk_l (zk_l (zk_r zdX11_isEither_0)))
theorem dX11_isEither_5 : decode cX11_isEither 5 = .ok (.iconst 1, 1) := zk_of (zk_r (zk_l (zk_r zdX11_isEither_0)))
theorem dX11_isEither_6 : decode cX11_isEither 6 = .ok (.if_icmp .ne 7, 3) := zk_of (zk_l (zk_r (zk_r zdX11_isEither_0)))
theorem dX11_isEither_13 : decode cX11_isEither 13 = .ok (.iconst 0, 1) := zk_of (zk_r (zk_r (zk_r zdX11_isEither_0)))
/-- HissHorn.isEither(I)Z -/
def rmX11_isEither : Room := { frames := 0, cells := 0, slots := 0, locals := 0 }
def fX11_isEither (x0 : Int32) : Option Int32 := (if x0 = 0 then (gd (isB 1) (some 1)) else (if x0 = 1 then (gd (isB 1) (some 1)) else (gd (isB 0) (some 0))))
set_option maxHeartbeats 4000000 in
set_option maxRecDepth 100000 in
theorem wX11_isEither {p : Program} {l : Launch} {e : Env} {s : State} {m : MethodId} {args : Array Value} {below : List Frame} {meth : Method} {c : Code} {D : va_G} {cy : Nat → ClassId} {st : Nat → Nat} (C : Cx RX11 cX11_isEither 1 (some .boolean) wsX11_isEither p s m args meth c) (hK : Ky D [(cy 0, .int), (cy 1, .long), (cy 2, .boolean), (cy 3, .byte), (cy 4, .object "HissHorn$Text")] st s) (x0 : Int32) {r : Int32} {H : Heap} {locs : List Loc} {ls : Array Slot} (h : fX11_isEither x0 = some r) (hP : va_P D vwCl (V0 u00) H) (hS : va_S (Ax (A0) s.heap.size) s.heap H locs) (hl : lv_has ls 1 [(0, .int x0)]) : W p l e rmX11_isEither s m args below meth c H locs 0 0 (MQ below (Qi D (V0) (A0) s.heap.size r u00) args s 0 0 (Ax (A0) s.heap.size)) (F0 m 0 ls []) := by
  unfold fX11_isEither at h
  refine lv_iload_n C.1 C.2.1 dX11_isEither_0 rfl (lv_at hl 0 rfl) ?_
  refine lv_if_eq (tgt := 9) C.1 C.2.1 dX11_isEither_1 (by decide) (fun c1 => ?_) (fun c1 => ?_)
  · rw [if_pos c1] at h
    refine lv_iconst (v := 1) C.1 C.2.1 dX11_isEither_9 (by decide) ?_
    refine lv_goto (tgt := 14) C.1 C.2.1 dX11_isEither_10 (by decide) ?_
    obtain ⟨hg1, h⟩ := gd_some h
    cases h
    exact rt_z hg1 C hP hS dX11_isEither_14
  · rw [if_neg c1] at h
    refine lv_iload_n C.1 C.2.1 dX11_isEither_4 rfl (lv_at hl 0 rfl) ?_
    refine lv_iconst (v := 1) C.1 C.2.1 dX11_isEither_5 (by decide) ?_
    refine lv_icmp_ne (tgt := 13) C.1 C.2.1 dX11_isEither_6 (by decide) (fun c6 => ?_) (fun c6 => ?_)
    · rw [if_neg c6] at h
      refine lv_iconst (v := 0) C.1 C.2.1 dX11_isEither_13 (by decide) ?_
      obtain ⟨hg2, h⟩ := gd_some h
      cases h
      exact rt_z hg2 C hP hS dX11_isEither_14
    · rw [if_pos c6] at h
      refine lv_iconst (v := 1) C.1 C.2.1 dX11_isEither_9 (by decide) ?_
      refine lv_goto (tgt := 14) C.1 C.2.1 dX11_isEither_10 (by decide) ?_
      obtain ⟨hg3, h⟩ := gd_some h
      cases h
      exact rt_z hg3 C hP hS dX11_isEither_14
theorem metX11_isEither (l : Launch) (D : va_G) (cy : Nat → ClassId) (st : Nat → Nat) (sz : Nat) (x0 : Int32) {r : Int32} (h : fX11_isEither x0 = some r) : Met l yX11_isEither wsX11_isEither rmX11_isEither (va_Pc [.int x0] (Px D [(cy 0, .int), (cy 1, .long), (cy 2, .boolean), (cy 3, .byte), (cy 4, .object "HissHorn$Text")] st V0 sz u00)) (Qi D V0 A0 sz r u00) 0 0 (Ax A0 sz) := by
  refine Met.ofW (cc := cX11_isEither) (maxL := 1) (ret := (some .boolean)) (by decide) rfl ?_
  intro p e s m args below meth c s₁ B hml hv
  obtain ⟨rfl, hsz, hP, hK⟩ := hv
  subst hsz
  have C : Cx RX11 cX11_isEither 1 (some .boolean) wsX11_isEither p s m _ meth c := ⟨B.exec, B.bytes, hml, B.returns, findClass_of_methodNamed B.named, atoms_spec (ws := wsX11_isEither) B.pre, B.notSynchronized⟩
  have hl := lv_entry ([.int x0]) (n := 1) (Nat.le_of_ble_eq_true rfl)
  rw [lg_entry_eq]
  exact wX11_isEither C hK x0 h hP va_S.rf hl

theorem zdX6_has_0 : (and (and (and (and (zk cX6_has 0 (.iload_n 1) 1) (zk cX6_has 1 (.ifCond .lt 15) 3)) (zk cX6_has 16 (.iconst 0) 1)) (and (zk cX6_has 17 (.ireturn) 1) (zk cX6_has 4 (.iload_n 1) 1))) (and (and (and (zk cX6_has 5 (.aload_n 0) 1) (zk cX6_has 6 (.getfield 49) 3)) (zk cX6_has 9 (.if_icmp .ge 7) 3)) (and (zk cX6_has 12 (.iconst 1) 1) (zk cX6_has 13 (.goto 4) 3)))) = true := by decide +kernel
theorem dX6_has_0 : decode cX6_has 0 = .ok (.iload_n 1, 1) := zk_of (zk_l (zk_l (zk_l (zk_l zdX6_has_0))))
theorem dX6_has_1 : decode cX6_has 1 = .ok (.ifCond .lt 15, 3) := zk_of (zk_r (zk_l (zk_l (zk_l zdX6_has_0))))
theorem dX6_has_16 : decode cX6_has 16 = .ok (.iconst 0, 1) := zk_of (zk_r (zk_l (zk_l zdX6_has_0)))
theorem dX6_has_17 : decode cX6_has 17 = .ok (.ireturn, 1) := zk_of (zk_l (zk_r (zk_l zdX6_has_0)))
theorem dX6_has_4 : decode cX6_has 4 = .ok (.iload_n 1, 1) := zk_of (zk_r (zk_r (zk_l zdX6_has_0)))
theorem dX6_has_5 : decode cX6_has 5 = .ok (.aload_n 0, 1) := zk_of (zk_l (zk_l (zk_l (zk_r zdX6_has_0))))
theorem dX6_has_6 : decode cX6_has 6 = .ok (.getfield 49, 3) := zk_of (zk_r (zk_l (zk_l (zk_r zdX6_has_0))))
theorem dX6_has_9 : decode cX6_has 9 = .ok (.if_icmp .ge 7, 3) := zk_of (zk_r (zk_l (zk_r zdX6_has_0)))
theorem dX6_has_12 : decode cX6_has 12 = .ok (.iconst 1, 1) := zk_of (zk_l (zk_r (zk_r zdX6_has_0)))
theorem dX6_has_13 : decode cX6_has 13 = .ok (.goto 4, 3) := zk_of (zk_r (zk_r (zk_r zdX6_has_0)))
/-- HissHorn$Parts.has(I)Z of cell 6 -/
def rmX6_has_6 : Room := { frames := 0, cells := 0, slots := 0, locals := 0 }
theorem hX6_has_6_X6 : ∀ w ∈ u_ws RX6 TX6 17, w ∈ wsX6_has := fun w h => (List.mem_cons_of_mem _ (List.mem_append_right _ h))
theorem mX6_has_6_1 : Cond.fieldLink RX6 49 "HissHorn$Parts" "size" "I" ∈ wsX6_has := (List.mem_cons_of_mem _ (List.mem_append_left _ (List.mem_of_getElem? (i := 0) rfl)))
def fX6_has_6 (x1 : Int32) (u : SX) : Option (Int32 × SX) := (if x1 < 0 then (gd (isB 0) (some (0, u))) else (if (u.1 8) ≤ x1 then (gd (isB 0) (some (0, u))) else (gd (isB 1) (some (1, u)))))
set_option maxHeartbeats 4000000 in
set_option maxRecDepth 100000 in
theorem wX6_has_6 {p : Program} {l : Launch} {e : Env} {s : State} {m : MethodId} {args : Array Value} {below : List Frame} {meth : Method} {c : Code} {D : va_G} {cy : Nat → ClassId} {ad st : Nat → Nat} (C : Cx RX6 cX6_has 2 (some .boolean) wsX6_has p s m args meth c) (hK : Ky D [(cy 0, .int), (cy 1, .long), (cy 2, .boolean), (cy 3, .byte), (cy 4, .object "HissHorn$Text")] st s) (hJ : JX ad st) (x1 : Int32) {u : SX} {r : Int32} {u' : SX} {H : Heap} {locs : List Loc} {ls : Array Slot} (h : fX6_has_6 x1 u = some (r, u')) (hP : va_P D vwCl (VX cy ad st u) H) (hS : va_S (Ax (AX ad) s.heap.size) s.heap H locs) (hl : lv_has ls 2 [(0, .ref (ad 6)), (1, .int x1)]) : W p l e rmX6_has_6 s m args below meth c H locs 0 0 (MQ below (Qi D (VX cy ad st) (AX ad) s.heap.size r u') args s 0 0 (Ax (AX ad) s.heap.size)) (F0 m 0 ls []) := by
  unfold fX6_has_6 at h
  refine lv_iload_n C.1 C.2.1 dX6_has_0 rfl (lv_at hl 1 rfl) ?_
  refine lv_if_lt (tgt := 16) C.1 C.2.1 dX6_has_1 (by decide) (fun c1 => ?_) (fun c1 => ?_)
  · rw [if_pos c1] at h
    refine lv_iconst (v := 0) C.1 C.2.1 dX6_has_16 (by decide) ?_
    obtain ⟨hg1, h⟩ := gd_some h
    cases h
    exact rt_z hg1 C hP hS dX6_has_17
  · rw [if_neg c1] at h
    refine lv_iload_n C.1 C.2.1 dX6_has_4 rfl (lv_at hl 1 rfl) ?_
    refine lv_aload_n C.1 C.2.1 dX6_has_5 rfl (lv_at hl 0 rfl) ?_
    refine gX_6_size C hX6_has_6_X6 hK hP mX6_has_6_1 dX6_has_6 ?_
    refine lv_icmp_ge (tgt := 16) C.1 C.2.1 dX6_has_9 (by decide) (fun c9 => ?_) (fun c9 => ?_)
    · rw [if_pos c9] at h
      refine lv_iconst (v := 0) C.1 C.2.1 dX6_has_16 (by decide) ?_
      obtain ⟨hg2, h⟩ := gd_some h
      cases h
      exact rt_z hg2 C hP hS dX6_has_17
    · rw [if_neg c9] at h
      refine lv_iconst (v := 1) C.1 C.2.1 dX6_has_12 (by decide) ?_
      refine lv_goto (tgt := 17) C.1 C.2.1 dX6_has_13 (by decide) ?_
      obtain ⟨hg3, h⟩ := gd_some h
      cases h
      exact rt_z hg3 C hP hS dX6_has_17
theorem metX6_has_6 (l : Launch) (D : va_G) (cy : Nat → ClassId) (ad st : Nat → Nat) (hJ : JX ad st) (sz : Nat) (x1 : Int32) {u : SX} {r : Int32} {u' : SX} (h : fX6_has_6 x1 u = some (r, u')) : Met l yX6_has wsX6_has rmX6_has_6 (va_Pc [.ref (ad 6), .int x1] (Px D [(cy 0, .int), (cy 1, .long), (cy 2, .boolean), (cy 3, .byte), (cy 4, .object "HissHorn$Text")] st (VX cy ad st) sz u)) (Qi D (VX cy ad st) (AX ad) sz r u') 0 0 (Ax (AX ad) sz) := by
  refine Met.ofW (cc := cX6_has) (maxL := 2) (ret := (some .boolean)) (by decide) rfl ?_
  intro p e s m args below meth c s₁ B hml hv
  obtain ⟨rfl, hsz, hP, hK⟩ := hv
  subst hsz
  have C : Cx RX6 cX6_has 2 (some .boolean) wsX6_has p s m _ meth c := ⟨B.exec, B.bytes, hml, B.returns, findClass_of_methodNamed B.named, atoms_spec (ws := wsX6_has) B.pre, B.notSynchronized⟩
  have hl := lv_entry ([.ref (ad 6), .int x1]) (n := 2) (Nat.le_of_ble_eq_true rfl)
  rw [lg_entry_eq]
  exact wX6_has_6 C hK hJ x1 h hP va_S.rf hl

theorem zdX11_rowsUpTo_11 : (and (and (and (and (and (zk cX11_rowsUpTo 11 (.iload 4) 2) (zk cX11_rowsUpTo 13 (.iload_n 2) 1)) (and (zk cX11_rowsUpTo 14 (.if_icmp .ge 17) 3) (zk cX11_rowsUpTo 17 (.aload_n 1) 1))) (and (and (zk cX11_rowsUpTo 18 (.iload 4) 2) (zk cX11_rowsUpTo 20 (.iaload) 1)) (and (zk cX11_rowsUpTo 21 (.iload_n 0) 1) (zk cX11_rowsUpTo 22 (.if_icmp .gt 9) 3)))) (and (and (and (zk cX11_rowsUpTo 25 (.iinc 4 1) 3) (zk cX11_rowsUpTo 28 (.goto (-17)) 3)) (and (zk cX11_rowsUpTo 31 (.iload 4) 2) (zk cX11_rowsUpTo 33 (.ifCond .le 19) 3))) (and (and (zk cX11_rowsUpTo 52 (.iload 4) 2) (zk cX11_rowsUpTo 54 (.ireturn) 1)) (zk cX11_rowsUpTo 36 (.aload_n 1) 1)))) (and (and (and (and (zk cX11_rowsUpTo 37 (.iload 4) 2) (zk cX11_rowsUpTo 39 (.iconst 1) 1)) (and (zk cX11_rowsUpTo 40 (.isub) 1) (zk cX11_rowsUpTo 41 (.iaload) 1))) (and (and (zk cX11_rowsUpTo 42 (.iload_n 0) 1) (zk cX11_rowsUpTo 43 (.if_icmp .le 9) 3)) (zk cX11_rowsUpTo 46 (.iinc 4 (-1)) 3))) (and (and (and (zk cX11_rowsUpTo 49 (.goto (-18)) 3) (zk cX11_rowsUpTo 0 (.iconst 0) 1)) (and (zk cX11_rowsUpTo 1 (.iload_n 3) 1) (zk cX11_rowsUpTo 2 (.iload_n 2) 1))) (and (and (zk cX11_rowsUpTo 3 (.invokestatic 400) 3) (zk cX11_rowsUpTo 6 (.invokestatic 403) 3)) (zk cX11_rowsUpTo 9 (.istore 4) 2))))) = true := by decide +kernel
theorem dX11_rowsUpTo_11 : decode cX11_rowsUpTo 11 = .ok (.iload 4, 2) := zk_of (zk_l (zk_l (zk_l (zk_l (zk_l zdX11_rowsUpTo_11)))))
theorem dX11_rowsUpTo_13 : decode cX11_rowsUpTo 13 = .ok (.iload_n 2, 1) := zk_of (zk_r (zk_l (zk_l (zk_l (zk_l zdX11_rowsUpTo_11)))))
theorem dX11_rowsUpTo_14 : decode cX11_rowsUpTo 14 = .ok (.if_icmp .ge 17, 3) := zk_of (zk_l (zk_r (zk_l (zk_l (zk_l zdX11_rowsUpTo_11)))))
theorem dX11_rowsUpTo_17 : decode cX11_rowsUpTo 17 = .ok (.aload_n 1, 1) := zk_of (zk_r (zk_r (zk_l (zk_l (zk_l zdX11_rowsUpTo_11)))))
theorem dX11_rowsUpTo_18 : decode cX11_rowsUpTo 18 = .ok (.iload 4, 2) := zk_of (zk_l (zk_l (zk_r (zk_l (zk_l zdX11_rowsUpTo_11)))))
theorem dX11_rowsUpTo_20 : decode cX11_rowsUpTo 20 = .ok (.iaload, 1) := zk_of (zk_r (zk_l (zk_r (zk_l (zk_l zdX11_rowsUpTo_11)))))
theorem dX11_rowsUpTo_21 : decode cX11_rowsUpTo 21 = .ok (.iload_n 0, 1) := zk_of (zk_l (zk_r (zk_r (zk_l (zk_l zdX11_rowsUpTo_11)))))
theorem dX11_rowsUpTo_22 : decode cX11_rowsUpTo 22 = .ok (.if_icmp .gt 9, 3) := zk_of (zk_r (zk_r (zk_r (zk_l (zk_l zdX11_rowsUpTo_11)))))
theorem dX11_rowsUpTo_25 : decode cX11_rowsUpTo 25 = .ok (.iinc 4 1, 3) := zk_of (zk_l (zk_l (zk_l (zk_r (zk_l zdX11_rowsUpTo_11)))))
theorem dX11_rowsUpTo_28 : decode cX11_rowsUpTo 28 = .ok (.goto (-17), 3) := zk_of (zk_r (zk_l (zk_l (zk_r (zk_l zdX11_rowsUpTo_11)))))
theorem dX11_rowsUpTo_31 : decode cX11_rowsUpTo 31 = .ok (.iload 4, 2) := zk_of (zk_l (zk_r (zk_l (zk_r (zk_l zdX11_rowsUpTo_11)))))
theorem dX11_rowsUpTo_33 : decode cX11_rowsUpTo 33 = .ok (.ifCond .le 19, 3) := zk_of (zk_r (zk_r (zk_l (zk_r (zk_l zdX11_rowsUpTo_11)))))
theorem dX11_rowsUpTo_52 : decode cX11_rowsUpTo 52 = .ok (.iload 4, 2) := zk_of (zk_l (zk_l (zk_r (zk_r (zk_l zdX11_rowsUpTo_11)))))
theorem dX11_rowsUpTo_54 : decode cX11_rowsUpTo 54 = .ok (.ireturn, 1) := zk_of (zk_r (zk_l (zk_r (zk_r (zk_l zdX11_rowsUpTo_11)))))
theorem dX11_rowsUpTo_36 : decode cX11_rowsUpTo 36 = .ok (.aload_n 1, 1) := zk_of (zk_r (zk_r (zk_r (zk_l zdX11_rowsUpTo_11))))
theorem dX11_rowsUpTo_37 : decode cX11_rowsUpTo 37 = .ok (.iload 4, 2) := zk_of (zk_l (zk_l (zk_l (zk_l (zk_r zdX11_rowsUpTo_11)))))
theorem dX11_rowsUpTo_39 : decode cX11_rowsUpTo 39 = .ok (.iconst 1, 1) := zk_of (zk_r (zk_l (zk_l (zk_l (zk_r zdX11_rowsUpTo_11)))))
theorem dX11_rowsUpTo_40 : decode cX11_rowsUpTo 40 = .ok (.isub, 1) := zk_of (zk_l (zk_r (zk_l (zk_l (zk_r zdX11_rowsUpTo_11)))))
theorem dX11_rowsUpTo_41 : decode cX11_rowsUpTo 41 = .ok (.iaload, 1) := zk_of (zk_r (zk_r (zk_l (zk_l (zk_r zdX11_rowsUpTo_11)))))
theorem dX11_rowsUpTo_42 : decode cX11_rowsUpTo 42 = .ok (.iload_n 0, 1) := zk_of (zk_l (zk_l (zk_r (zk_l (zk_r zdX11_rowsUpTo_11)))))
theorem dX11_rowsUpTo_43 : decode cX11_rowsUpTo 43 = .ok (.if_icmp .le 9, 3) := zk_of (zk_r (zk_l (zk_r (zk_l (zk_r zdX11_rowsUpTo_11)))))
theorem dX11_rowsUpTo_46 : decode cX11_rowsUpTo 46 = .ok (.iinc 4 (-1), 3) := zk_of (zk_r (zk_r (zk_l (zk_r zdX11_rowsUpTo_11))))
theorem dX11_rowsUpTo_49 : decode cX11_rowsUpTo 49 = .ok (.goto (-18), 3) := zk_of (zk_l (zk_l (zk_l (zk_r (zk_r zdX11_rowsUpTo_11)))))
theorem dX11_rowsUpTo_0 : decode cX11_rowsUpTo 0 = .ok (.iconst 0, 1) := zk_of (zk_r (zk_l (zk_l (zk_r (zk_r zdX11_rowsUpTo_11)))))
theorem dX11_rowsUpTo_1 : decode cX11_rowsUpTo 1 = .ok (.iload_n 3, 1) := zk_of (zk_l (zk_r (zk_l (zk_r (zk_r zdX11_rowsUpTo_11)))))
theorem dX11_rowsUpTo_2 : decode cX11_rowsUpTo 2 = .ok (.iload_n 2, 1) := zk_of (zk_r (zk_r (zk_l (zk_r (zk_r zdX11_rowsUpTo_11)))))
theorem dX11_rowsUpTo_3 : decode cX11_rowsUpTo 3 = .ok (.invokestatic 400, 3) := zk_of (zk_l (zk_l (zk_r (zk_r (zk_r zdX11_rowsUpTo_11)))))
theorem dX11_rowsUpTo_6 : decode cX11_rowsUpTo 6 = .ok (.invokestatic 403, 3) := zk_of (zk_r (zk_l (zk_r (zk_r (zk_r zdX11_rowsUpTo_11)))))
theorem dX11_rowsUpTo_9 : decode cX11_rowsUpTo 9 = .ok (.istore 4, 2) := zk_of (zk_r (zk_r (zk_r (zk_r zdX11_rowsUpTo_11))))
/-- HissHorn.rowsUpTo(I[III)I -/
def rmX11_rowsUpTo_a25 : Room := { frames := 1, cells := 0, slots := 0, locals := 14 }
theorem mX11_rowsUpTo_a25_0 : Cond.methodLink RX11 400 Lib.Math.min.name ∈ wsX11_rowsUpTo := (List.mem_cons_of_mem _ (List.mem_of_getElem? (i := 0) rfl))
theorem mX11_rowsUpTo_a25_1 : Cond.static Lib.Math.min.name ∈ wsX11_rowsUpTo := (List.mem_cons_of_mem _ (List.mem_of_getElem? (i := 1) rfl))
theorem mX11_rowsUpTo_a25_2 : Cond.initialized "java/lang/Math" ∈ wsX11_rowsUpTo := (List.mem_cons_of_mem _ (List.mem_of_getElem? (i := 2) rfl))
theorem mX11_rowsUpTo_a25_3 : Cond.code Lib.Math.min.name Lib.Math.min.code 2 (some .int) ∈ wsX11_rowsUpTo := (List.mem_cons_of_mem _ (List.mem_of_getElem? (i := 3) rfl))
theorem mX11_rowsUpTo_a25_4 : Cond.methodLink RX11 403 Lib.Math.max.name ∈ wsX11_rowsUpTo := (List.mem_cons_of_mem _ (List.mem_of_getElem? (i := 4) rfl))
theorem mX11_rowsUpTo_a25_5 : Cond.static Lib.Math.max.name ∈ wsX11_rowsUpTo := (List.mem_cons_of_mem _ (List.mem_of_getElem? (i := 5) rfl))
theorem mX11_rowsUpTo_a25_6 : Cond.code Lib.Math.max.name Lib.Math.max.code 2 (some .int) ∈ wsX11_rowsUpTo := (List.mem_cons_of_mem _ (List.mem_of_getElem? (i := 6) rfl))
def LX11_rowsUpTo_a25_11 (k31 : Int32 → Int32 → SX → Option (Int32 × SX)) : Nat → Int32 → Int32 → Int32 → SX → Option (Int32 × SX)
  | 0, _, _, _, _ => none
  | n + 1, z0, z2, z4, u => (if z2 ≤ z4 then (k31 z0 z4 u) else (gd (inb z4 12) (if z0 < (u.2.1 25 z4.toNatClampNeg) then (k31 z0 z4 u) else ((LX11_rowsUpTo_a25_11 k31 n) z0 z2 (z4 + 1) u))))
def LX11_rowsUpTo_a25_31  : Nat → Int32 → Int32 → SX → Option (Int32 × SX)
  | 0, _, _, _ => none
  | n + 1, z0, z4, u => (if z4 ≤ 0 then (some (z4, u)) else (gd (inb (z4 - 1) 12) (if (u.2.1 25 (z4 - 1).toNatClampNeg) ≤ z0 then (some (z4, u)) else ((LX11_rowsUpTo_a25_31 n) z0 (z4 + (-1)) u))))
def fX11_rowsUpTo_a25 (x0 : Int32) (x2 : Int32) (x3 : Int32) (u : SX) : Option (Int32 × SX) := (lt (if 0 < (if x2 < x3 then x2 else x3) then (if x2 < x3 then x2 else x3) else 0) fun v1 => (LX11_rowsUpTo_a25_11 (LX11_rowsUpTo_a25_31  5000) 5000 x0 x2 v1 u))
set_option maxHeartbeats 4000000 in
set_option maxRecDepth 100000 in
theorem wLX11_rowsUpTo_a25_11 {p : Program} {l : Launch} {e : Env} {s : State} {m : MethodId} {args : Array Value} {below : List Frame} {meth : Method} {c : Code} {D : va_G} {cy : Nat → ClassId} {ad st : Nat → Nat} (C : Cx RX11 cX11_rowsUpTo 5 (some .int) wsX11_rowsUpTo p s m args meth c) (hK : Ky D [(cy 0, .int), (cy 1, .long), (cy 2, .boolean), (cy 3, .byte), (cy 4, .object "HissHorn$Text")] st s) (hJ : JX ad st) {r : Int32} {u' : SX} {k31 : Int32 → Int32 → SX → Option (Int32 × SX)} (hk31 : ∀ (z0 : Int32) (z4 : Int32) (u : SX) (H : Heap) (locs : List Loc) (ls : Array Slot), k31 z0 z4 u = some (r, u') → va_P D vwCl (VX cy ad st u) H → va_S (Ax (AX ad) s.heap.size) s.heap H locs → lv_has ls 5 [(0, .int z0), (1, .ref (ad 25)), (4, .int z4)] → W p l e rmX11_rowsUpTo_a25 s m args below meth c H locs 0 0 (MQ below (Qi D (VX cy ad st) (AX ad) s.heap.size r u') args s 0 0 (Ax (AX ad) s.heap.size)) (F0 m 31 ls [])) : ∀ (n : Nat) (z0 : Int32) (z2 : Int32) (z4 : Int32) (u : SX) (H : Heap) (locs : List Loc) (ls : Array Slot), LX11_rowsUpTo_a25_11 k31 n z0 z2 z4 u = some (r, u') → va_P D vwCl (VX cy ad st u) H → va_S (Ax (AX ad) s.heap.size) s.heap H locs → lv_has ls 5 [(0, .int z0), (1, .ref (ad 25)), (2, .int z2), (4, .int z4)] → W p l e rmX11_rowsUpTo_a25 s m args below meth c H locs 0 0 (MQ below (Qi D (VX cy ad st) (AX ad) s.heap.size r u') args s 0 0 (Ax (AX ad) s.heap.size)) (F0 m 11 ls []) := by
  intro n
  induction n with
  | zero =>
    intro z0 z2 z4 u H locs ls h
    exact absurd h (by intro q; cases q)
  | succ n ih =>
    intro z0 z2 z4 u H locs ls h hP hS hl
    rw [LX11_rowsUpTo_a25_11] at h
    refine lv_iload C.1 C.2.1 dX11_rowsUpTo_11 (lv_at hl 3 rfl) ?_
    refine lv_iload_n C.1 C.2.1 dX11_rowsUpTo_13 rfl (lv_at hl 2 rfl) ?_
    refine lv_icmp_ge (tgt := 31) C.1 C.2.1 dX11_rowsUpTo_14 (by decide) (fun c14 => ?_) (fun c14 => ?_)
    · rw [if_pos c14] at h
      exact hk31 _ _ _ _ _ _ h hP hS (lv_sub hl [0, 1, 3] rfl)
    · rw [if_neg c14] at h
      refine lv_aload_n C.1 C.2.1 dX11_rowsUpTo_17 rfl (lv_at hl 1 rfl) ?_
      refine lv_iload C.1 C.2.1 dX11_rowsUpTo_18 (lv_at hl 3 rfl) ?_
      obtain ⟨hg3, h⟩ := gd_some h
      refine lX_25 C hK hP hg3 dX11_rowsUpTo_20 ?_
      refine lv_iload_n C.1 C.2.1 dX11_rowsUpTo_21 rfl (lv_at hl 0 rfl) ?_
      refine lv_icmp_gt (tgt := 31) C.1 C.2.1 dX11_rowsUpTo_22 (by decide) (fun c22 => ?_) (fun c22 => ?_)
      · rw [if_pos c22] at h
        exact hk31 _ _ _ _ _ _ h hP hS (lv_sub hl [0, 1, 3] rfl)
      · rw [if_neg c22] at h
        refine lv_iinc (v := z4 + 1) (lv' := [(4, .int (z4 + 1)), (0, .int z0), (1, .ref (ad 25)), (2, .int z2)]) C.1 C.2.1 dX11_rowsUpTo_25 hl (k := 3) rfl rfl (by decide) rfl (fun ls hl => ?_)
        replace hl := lv_sub (l' := [(0, .int z0), (1, .ref (ad 25)), (2, .int z2), (4, .int (z4 + 1))]) hl [1, 2, 3, 0] rfl
        refine lv_goto (tgt := 11) C.1 C.2.1 dX11_rowsUpTo_28 (by decide) ?_
        exact ih _ _ _ _ _ _ _ h hP hS hl
set_option maxHeartbeats 4000000 in
set_option maxRecDepth 100000 in
theorem wLX11_rowsUpTo_a25_31 {p : Program} {l : Launch} {e : Env} {s : State} {m : MethodId} {args : Array Value} {below : List Frame} {meth : Method} {c : Code} {D : va_G} {cy : Nat → ClassId} {ad st : Nat → Nat} (C : Cx RX11 cX11_rowsUpTo 5 (some .int) wsX11_rowsUpTo p s m args meth c) (hK : Ky D [(cy 0, .int), (cy 1, .long), (cy 2, .boolean), (cy 3, .byte), (cy 4, .object "HissHorn$Text")] st s) (hJ : JX ad st) {r : Int32} {u' : SX}   : ∀ (n : Nat) (z0 : Int32) (z4 : Int32) (u : SX) (H : Heap) (locs : List Loc) (ls : Array Slot), LX11_rowsUpTo_a25_31  n z0 z4 u = some (r, u') → va_P D vwCl (VX cy ad st u) H → va_S (Ax (AX ad) s.heap.size) s.heap H locs → lv_has ls 5 [(0, .int z0), (1, .ref (ad 25)), (4, .int z4)] → W p l e rmX11_rowsUpTo_a25 s m args below meth c H locs 0 0 (MQ below (Qi D (VX cy ad st) (AX ad) s.heap.size r u') args s 0 0 (Ax (AX ad) s.heap.size)) (F0 m 31 ls []) := by
  intro n
  induction n with
  | zero =>
    intro z0 z4 u H locs ls h
    exact absurd h (by intro q; cases q)
  | succ n ih =>
    intro z0 z4 u H locs ls h hP hS hl
    rw [LX11_rowsUpTo_a25_31] at h
    refine lv_iload C.1 C.2.1 dX11_rowsUpTo_31 (lv_at hl 2 rfl) ?_
    refine lv_if_le (tgt := 52) C.1 C.2.1 dX11_rowsUpTo_33 (by decide) (fun c33 => ?_) (fun c33 => ?_)
    · rw [if_pos c33] at h
      refine lv_iload C.1 C.2.1 dX11_rowsUpTo_52 (lv_at hl 2 rfl) ?_
      cases h
      exact rt_i C hP hS dX11_rowsUpTo_54
    · rw [if_neg c33] at h
      refine lv_aload_n C.1 C.2.1 dX11_rowsUpTo_36 rfl (lv_at hl 1 rfl) ?_
      refine lv_iload C.1 C.2.1 dX11_rowsUpTo_37 (lv_at hl 2 rfl) ?_
      refine lv_iconst (v := 1) C.1 C.2.1 dX11_rowsUpTo_39 (by decide) ?_
      refine lv_isub C.1 C.2.1 dX11_rowsUpTo_40 ?_
      obtain ⟨hg4, h⟩ := gd_some h
      refine lX_25 C hK hP hg4 dX11_rowsUpTo_41 ?_
      refine lv_iload_n C.1 C.2.1 dX11_rowsUpTo_42 rfl (lv_at hl 0 rfl) ?_
      refine lv_icmp_le (tgt := 52) C.1 C.2.1 dX11_rowsUpTo_43 (by decide) (fun c43 => ?_) (fun c43 => ?_)
      · rw [if_pos c43] at h
        refine lv_iload C.1 C.2.1 dX11_rowsUpTo_52 (lv_at hl 2 rfl) ?_
        cases h
        exact rt_i C hP hS dX11_rowsUpTo_54
      · rw [if_neg c43] at h
        refine lv_iinc (v := z4 + (-1)) (lv' := [(4, .int (z4 + (-1))), (0, .int z0), (1, .ref (ad 25))]) C.1 C.2.1 dX11_rowsUpTo_46 hl (k := 2) rfl rfl (by decide) rfl (fun ls hl => ?_)
        replace hl := lv_sub (l' := [(0, .int z0), (1, .ref (ad 25)), (4, .int (z4 + (-1)))]) hl [1, 2, 0] rfl
        refine lv_goto (tgt := 31) C.1 C.2.1 dX11_rowsUpTo_49 (by decide) ?_
        exact ih _ _ _ _ _ _ h hP hS hl
set_option maxHeartbeats 4000000 in
set_option maxRecDepth 100000 in
theorem wX11_rowsUpTo_a25 {p : Program} {l : Launch} {e : Env} {s : State} {m : MethodId} {args : Array Value} {below : List Frame} {meth : Method} {c : Code} {D : va_G} {cy : Nat → ClassId} {ad st : Nat → Nat} (C : Cx RX11 cX11_rowsUpTo 5 (some .int) wsX11_rowsUpTo p s m args meth c) (hK : Ky D [(cy 0, .int), (cy 1, .long), (cy 2, .boolean), (cy 3, .byte), (cy 4, .object "HissHorn$Text")] st s) (hJ : JX ad st) (x0 : Int32) (x2 : Int32) (x3 : Int32) {u : SX} {r : Int32} {u' : SX} {H : Heap} {locs : List Loc} {ls : Array Slot} (h : fX11_rowsUpTo_a25 x0 x2 x3 u = some (r, u')) (hP : va_P D vwCl (VX cy ad st u) H) (hS : va_S (Ax (AX ad) s.heap.size) s.heap H locs) (hl : lv_has ls 5 [(0, .int x0), (1, .ref (ad 25)), (2, .int x2), (3, .int x3)]) : W p l e rmX11_rowsUpTo_a25 s m args below meth c H locs 0 0 (MQ below (Qi D (VX cy ad st) (AX ad) s.heap.size r u') args s 0 0 (Ax (AX ad) s.heap.size)) (F0 m 0 ls []) := by
  unfold fX11_rowsUpTo_a25 at h
  refine lv_iconst (v := 0) C.1 C.2.1 dX11_rowsUpTo_0 (by decide) ?_
  refine lv_iload_n C.1 C.2.1 dX11_rowsUpTo_1 rfl (lv_at hl 3 rfl) ?_
  refine lv_iload_n C.1 C.2.1 dX11_rowsUpTo_2 rfl (lv_at hl 2 rfl) ?_
  refine va_mmin C.1 C.2.1 (C.2.2.1.trans hl.1.symm) C.2.2.2.2.1 (C.2.2.2.2.2.1 _ mX11_rowsUpTo_a25_0) (C.2.2.2.2.2.1 _ mX11_rowsUpTo_a25_1) (C.2.2.2.2.2.1 _ mX11_rowsUpTo_a25_2) (C.2.2.2.2.2.1 _ mX11_rowsUpTo_a25_3) (Nat.le_of_ble_eq_true rfl) (Nat.le_of_ble_eq_true rfl) (Nat.zero_le _) (Nat.zero_le _) dX11_rowsUpTo_3 ?_
  refine va_mmax C.1 C.2.1 (C.2.2.1.trans hl.1.symm) C.2.2.2.2.1 (C.2.2.2.2.2.1 _ mX11_rowsUpTo_a25_4) (C.2.2.2.2.2.1 _ mX11_rowsUpTo_a25_5) (C.2.2.2.2.2.1 _ mX11_rowsUpTo_a25_2) (C.2.2.2.2.2.1 _ mX11_rowsUpTo_a25_6) (Nat.le_of_ble_eq_true rfl) (Nat.le_of_ble_eq_true rfl) (Nat.zero_le _) (Nat.zero_le _) dX11_rowsUpTo_6 ?_
  refine lv_topi (fun v1 hv2 => ?_)
  replace h := lt_e hv2 h
  try dsimp only at h
  refine lv_istore (lv' := [(4, .int v1), (0, .int x0), (1, .ref (ad 25)), (2, .int x2), (3, .int x3)]) C.1 C.2.1 dX11_rowsUpTo_9 hl (by decide) rfl (fun ls hl => ?_)
  replace hl := lv_sub (l' := [(0, .int x0), (1, .ref (ad 25)), (2, .int x2), (3, .int x3), (4, .int v1)]) hl [1, 2, 3, 4, 0] rfl
  exact wLX11_rowsUpTo_a25_11 C hK hJ (wLX11_rowsUpTo_a25_31 C hK hJ  5000) 5000 _ _ _ _ _ _ _ h hP hS (lv_sub hl [0, 1, 2, 4] rfl)
theorem metX11_rowsUpTo_a25 (l : Launch) (D : va_G) (cy : Nat → ClassId) (ad st : Nat → Nat) (hJ : JX ad st) (sz : Nat) (x0 : Int32) (x2 : Int32) (x3 : Int32) {u : SX} {r : Int32} {u' : SX} (h : fX11_rowsUpTo_a25 x0 x2 x3 u = some (r, u')) : Met l yX11_rowsUpTo wsX11_rowsUpTo rmX11_rowsUpTo_a25 (va_Pc [.int x0, .ref (ad 25), .int x2, .int x3] (Px D [(cy 0, .int), (cy 1, .long), (cy 2, .boolean), (cy 3, .byte), (cy 4, .object "HissHorn$Text")] st (VX cy ad st) sz u)) (Qi D (VX cy ad st) (AX ad) sz r u') 0 0 (Ax (AX ad) sz) := by
  refine Met.ofW (cc := cX11_rowsUpTo) (maxL := 5) (ret := (some .int)) (by decide) rfl ?_
  intro p e s m args below meth c s₁ B hml hv
  obtain ⟨rfl, hsz, hP, hK⟩ := hv
  subst hsz
  have C : Cx RX11 cX11_rowsUpTo 5 (some .int) wsX11_rowsUpTo p s m _ meth c := ⟨B.exec, B.bytes, hml, B.returns, findClass_of_methodNamed B.named, atoms_spec (ws := wsX11_rowsUpTo) B.pre, B.notSynchronized⟩
  have hl := lv_entry ([.int x0, .ref (ad 25), .int x2, .int x3]) (n := 5) (Nat.le_of_ble_eq_true rfl)
  rw [lg_entry_eq]
  exact wX11_rowsUpTo_a25 C hK hJ x0 x2 x3 h hP va_S.rf hl

/-- HissHorn.rowsUpTo(I[III)I -/
def rmX11_rowsUpTo_a34 : Room := { frames := 1, cells := 0, slots := 0, locals := 14 }
theorem mX11_rowsUpTo_a34_0 : Cond.methodLink RX11 400 Lib.Math.min.name ∈ wsX11_rowsUpTo := (List.mem_cons_of_mem _ (List.mem_of_getElem? (i := 0) rfl))
theorem mX11_rowsUpTo_a34_1 : Cond.static Lib.Math.min.name ∈ wsX11_rowsUpTo := (List.mem_cons_of_mem _ (List.mem_of_getElem? (i := 1) rfl))
theorem mX11_rowsUpTo_a34_2 : Cond.initialized "java/lang/Math" ∈ wsX11_rowsUpTo := (List.mem_cons_of_mem _ (List.mem_of_getElem? (i := 2) rfl))
theorem mX11_rowsUpTo_a34_3 : Cond.code Lib.Math.min.name Lib.Math.min.code 2 (some .int) ∈ wsX11_rowsUpTo := (List.mem_cons_of_mem _ (List.mem_of_getElem? (i := 3) rfl))
theorem mX11_rowsUpTo_a34_4 : Cond.methodLink RX11 403 Lib.Math.max.name ∈ wsX11_rowsUpTo := (List.mem_cons_of_mem _ (List.mem_of_getElem? (i := 4) rfl))
theorem mX11_rowsUpTo_a34_5 : Cond.static Lib.Math.max.name ∈ wsX11_rowsUpTo := (List.mem_cons_of_mem _ (List.mem_of_getElem? (i := 5) rfl))
theorem mX11_rowsUpTo_a34_6 : Cond.code Lib.Math.max.name Lib.Math.max.code 2 (some .int) ∈ wsX11_rowsUpTo := (List.mem_cons_of_mem _ (List.mem_of_getElem? (i := 6) rfl))
def LX11_rowsUpTo_a34_11 (k31 : Int32 → Int32 → SX → Option (Int32 × SX)) : Nat → Int32 → Int32 → Int32 → SX → Option (Int32 × SX)
  | 0, _, _, _, _ => none
  | n + 1, z0, z2, z4, u => (if z2 ≤ z4 then (k31 z0 z4 u) else (gd (inb z4 30) (if z0 < (u.2.1 34 z4.toNatClampNeg) then (k31 z0 z4 u) else ((LX11_rowsUpTo_a34_11 k31 n) z0 z2 (z4 + 1) u))))
def LX11_rowsUpTo_a34_31  : Nat → Int32 → Int32 → SX → Option (Int32 × SX)
  | 0, _, _, _ => none
  | n + 1, z0, z4, u => (if z4 ≤ 0 then (some (z4, u)) else (gd (inb (z4 - 1) 30) (if (u.2.1 34 (z4 - 1).toNatClampNeg) ≤ z0 then (some (z4, u)) else ((LX11_rowsUpTo_a34_31 n) z0 (z4 + (-1)) u))))
def fX11_rowsUpTo_a34 (x0 : Int32) (x2 : Int32) (x3 : Int32) (u : SX) : Option (Int32 × SX) := (lt (if 0 < (if x2 < x3 then x2 else x3) then (if x2 < x3 then x2 else x3) else 0) fun v1 => (LX11_rowsUpTo_a34_11 (LX11_rowsUpTo_a34_31  5000) 5000 x0 x2 v1 u))
set_option maxHeartbeats 4000000 in
set_option maxRecDepth 100000 in
theorem wLX11_rowsUpTo_a34_11 {p : Program} {l : Launch} {e : Env} {s : State} {m : MethodId} {args : Array Value} {below : List Frame} {meth : Method} {c : Code} {D : va_G} {cy : Nat → ClassId} {ad st : Nat → Nat} (C : Cx RX11 cX11_rowsUpTo 5 (some .int) wsX11_rowsUpTo p s m args meth c) (hK : Ky D [(cy 0, .int), (cy 1, .long), (cy 2, .boolean), (cy 3, .byte), (cy 4, .object "HissHorn$Text")] st s) (hJ : JX ad st) {r : Int32} {u' : SX} {k31 : Int32 → Int32 → SX → Option (Int32 × SX)} (hk31 : ∀ (z0 : Int32) (z4 : Int32) (u : SX) (H : Heap) (locs : List Loc) (ls : Array Slot), k31 z0 z4 u = some (r, u') → va_P D vwCl (VX cy ad st u) H → va_S (Ax (AX ad) s.heap.size) s.heap H locs → lv_has ls 5 [(0, .int z0), (1, .ref (ad 34)), (4, .int z4)] → W p l e rmX11_rowsUpTo_a34 s m args below meth c H locs 0 0 (MQ below (Qi D (VX cy ad st) (AX ad) s.heap.size r u') args s 0 0 (Ax (AX ad) s.heap.size)) (F0 m 31 ls [])) : ∀ (n : Nat) (z0 : Int32) (z2 : Int32) (z4 : Int32) (u : SX) (H : Heap) (locs : List Loc) (ls : Array Slot), LX11_rowsUpTo_a34_11 k31 n z0 z2 z4 u = some (r, u') → va_P D vwCl (VX cy ad st u) H → va_S (Ax (AX ad) s.heap.size) s.heap H locs → lv_has ls 5 [(0, .int z0), (1, .ref (ad 34)), (2, .int z2), (4, .int z4)] → W p l e rmX11_rowsUpTo_a34 s m args below meth c H locs 0 0 (MQ below (Qi D (VX cy ad st) (AX ad) s.heap.size r u') args s 0 0 (Ax (AX ad) s.heap.size)) (F0 m 11 ls []) := by
  intro n
  induction n with
  | zero =>
    intro z0 z2 z4 u H locs ls h
    exact absurd h (by intro q; cases q)
  | succ n ih =>
    intro z0 z2 z4 u H locs ls h hP hS hl
    rw [LX11_rowsUpTo_a34_11] at h
    refine lv_iload C.1 C.2.1 dX11_rowsUpTo_11 (lv_at hl 3 rfl) ?_
    refine lv_iload_n C.1 C.2.1 dX11_rowsUpTo_13 rfl (lv_at hl 2 rfl) ?_
    refine lv_icmp_ge (tgt := 31) C.1 C.2.1 dX11_rowsUpTo_14 (by decide) (fun c14 => ?_) (fun c14 => ?_)
    · rw [if_pos c14] at h
      exact hk31 _ _ _ _ _ _ h hP hS (lv_sub hl [0, 1, 3] rfl)
    · rw [if_neg c14] at h
      refine lv_aload_n C.1 C.2.1 dX11_rowsUpTo_17 rfl (lv_at hl 1 rfl) ?_
      refine lv_iload C.1 C.2.1 dX11_rowsUpTo_18 (lv_at hl 3 rfl) ?_
      obtain ⟨hg3, h⟩ := gd_some h
      refine lX_34 C hK hP hg3 dX11_rowsUpTo_20 ?_
      refine lv_iload_n C.1 C.2.1 dX11_rowsUpTo_21 rfl (lv_at hl 0 rfl) ?_
      refine lv_icmp_gt (tgt := 31) C.1 C.2.1 dX11_rowsUpTo_22 (by decide) (fun c22 => ?_) (fun c22 => ?_)
      · rw [if_pos c22] at h
        exact hk31 _ _ _ _ _ _ h hP hS (lv_sub hl [0, 1, 3] rfl)
      · rw [if_neg c22] at h
        refine lv_iinc (v := z4 + 1) (lv' := [(4, .int (z4 + 1)), (0, .int z0), (1, .ref (ad 34)), (2, .int z2)]) C.1 C.2.1 dX11_rowsUpTo_25 hl (k := 3) rfl rfl (by decide) rfl (fun ls hl => ?_)
        replace hl := lv_sub (l' := [(0, .int z0), (1, .ref (ad 34)), (2, .int z2), (4, .int (z4 + 1))]) hl [1, 2, 3, 0] rfl
        refine lv_goto (tgt := 11) C.1 C.2.1 dX11_rowsUpTo_28 (by decide) ?_
        exact ih _ _ _ _ _ _ _ h hP hS hl
set_option maxHeartbeats 4000000 in
set_option maxRecDepth 100000 in
theorem wLX11_rowsUpTo_a34_31 {p : Program} {l : Launch} {e : Env} {s : State} {m : MethodId} {args : Array Value} {below : List Frame} {meth : Method} {c : Code} {D : va_G} {cy : Nat → ClassId} {ad st : Nat → Nat} (C : Cx RX11 cX11_rowsUpTo 5 (some .int) wsX11_rowsUpTo p s m args meth c) (hK : Ky D [(cy 0, .int), (cy 1, .long), (cy 2, .boolean), (cy 3, .byte), (cy 4, .object "HissHorn$Text")] st s) (hJ : JX ad st) {r : Int32} {u' : SX}   : ∀ (n : Nat) (z0 : Int32) (z4 : Int32) (u : SX) (H : Heap) (locs : List Loc) (ls : Array Slot), LX11_rowsUpTo_a34_31  n z0 z4 u = some (r, u') → va_P D vwCl (VX cy ad st u) H → va_S (Ax (AX ad) s.heap.size) s.heap H locs → lv_has ls 5 [(0, .int z0), (1, .ref (ad 34)), (4, .int z4)] → W p l e rmX11_rowsUpTo_a34 s m args below meth c H locs 0 0 (MQ below (Qi D (VX cy ad st) (AX ad) s.heap.size r u') args s 0 0 (Ax (AX ad) s.heap.size)) (F0 m 31 ls []) := by
  intro n
  induction n with
  | zero =>
    intro z0 z4 u H locs ls h
    exact absurd h (by intro q; cases q)
  | succ n ih =>
    intro z0 z4 u H locs ls h hP hS hl
    rw [LX11_rowsUpTo_a34_31] at h
    refine lv_iload C.1 C.2.1 dX11_rowsUpTo_31 (lv_at hl 2 rfl) ?_
    refine lv_if_le (tgt := 52) C.1 C.2.1 dX11_rowsUpTo_33 (by decide) (fun c33 => ?_) (fun c33 => ?_)
    · rw [if_pos c33] at h
      refine lv_iload C.1 C.2.1 dX11_rowsUpTo_52 (lv_at hl 2 rfl) ?_
      cases h
      exact rt_i C hP hS dX11_rowsUpTo_54
    · rw [if_neg c33] at h
      refine lv_aload_n C.1 C.2.1 dX11_rowsUpTo_36 rfl (lv_at hl 1 rfl) ?_
      refine lv_iload C.1 C.2.1 dX11_rowsUpTo_37 (lv_at hl 2 rfl) ?_
      refine lv_iconst (v := 1) C.1 C.2.1 dX11_rowsUpTo_39 (by decide) ?_
      refine lv_isub C.1 C.2.1 dX11_rowsUpTo_40 ?_
      obtain ⟨hg4, h⟩ := gd_some h
      refine lX_34 C hK hP hg4 dX11_rowsUpTo_41 ?_
      refine lv_iload_n C.1 C.2.1 dX11_rowsUpTo_42 rfl (lv_at hl 0 rfl) ?_
      refine lv_icmp_le (tgt := 52) C.1 C.2.1 dX11_rowsUpTo_43 (by decide) (fun c43 => ?_) (fun c43 => ?_)
      · rw [if_pos c43] at h
        refine lv_iload C.1 C.2.1 dX11_rowsUpTo_52 (lv_at hl 2 rfl) ?_
        cases h
        exact rt_i C hP hS dX11_rowsUpTo_54
      · rw [if_neg c43] at h
        refine lv_iinc (v := z4 + (-1)) (lv' := [(4, .int (z4 + (-1))), (0, .int z0), (1, .ref (ad 34))]) C.1 C.2.1 dX11_rowsUpTo_46 hl (k := 2) rfl rfl (by decide) rfl (fun ls hl => ?_)
        replace hl := lv_sub (l' := [(0, .int z0), (1, .ref (ad 34)), (4, .int (z4 + (-1)))]) hl [1, 2, 0] rfl
        refine lv_goto (tgt := 31) C.1 C.2.1 dX11_rowsUpTo_49 (by decide) ?_
        exact ih _ _ _ _ _ _ h hP hS hl
set_option maxHeartbeats 4000000 in
set_option maxRecDepth 100000 in
theorem wX11_rowsUpTo_a34 {p : Program} {l : Launch} {e : Env} {s : State} {m : MethodId} {args : Array Value} {below : List Frame} {meth : Method} {c : Code} {D : va_G} {cy : Nat → ClassId} {ad st : Nat → Nat} (C : Cx RX11 cX11_rowsUpTo 5 (some .int) wsX11_rowsUpTo p s m args meth c) (hK : Ky D [(cy 0, .int), (cy 1, .long), (cy 2, .boolean), (cy 3, .byte), (cy 4, .object "HissHorn$Text")] st s) (hJ : JX ad st) (x0 : Int32) (x2 : Int32) (x3 : Int32) {u : SX} {r : Int32} {u' : SX} {H : Heap} {locs : List Loc} {ls : Array Slot} (h : fX11_rowsUpTo_a34 x0 x2 x3 u = some (r, u')) (hP : va_P D vwCl (VX cy ad st u) H) (hS : va_S (Ax (AX ad) s.heap.size) s.heap H locs) (hl : lv_has ls 5 [(0, .int x0), (1, .ref (ad 34)), (2, .int x2), (3, .int x3)]) : W p l e rmX11_rowsUpTo_a34 s m args below meth c H locs 0 0 (MQ below (Qi D (VX cy ad st) (AX ad) s.heap.size r u') args s 0 0 (Ax (AX ad) s.heap.size)) (F0 m 0 ls []) := by
  unfold fX11_rowsUpTo_a34 at h
  refine lv_iconst (v := 0) C.1 C.2.1 dX11_rowsUpTo_0 (by decide) ?_
  refine lv_iload_n C.1 C.2.1 dX11_rowsUpTo_1 rfl (lv_at hl 3 rfl) ?_
  refine lv_iload_n C.1 C.2.1 dX11_rowsUpTo_2 rfl (lv_at hl 2 rfl) ?_
  refine va_mmin C.1 C.2.1 (C.2.2.1.trans hl.1.symm) C.2.2.2.2.1 (C.2.2.2.2.2.1 _ mX11_rowsUpTo_a34_0) (C.2.2.2.2.2.1 _ mX11_rowsUpTo_a34_1) (C.2.2.2.2.2.1 _ mX11_rowsUpTo_a34_2) (C.2.2.2.2.2.1 _ mX11_rowsUpTo_a34_3) (Nat.le_of_ble_eq_true rfl) (Nat.le_of_ble_eq_true rfl) (Nat.zero_le _) (Nat.zero_le _) dX11_rowsUpTo_3 ?_
  refine va_mmax C.1 C.2.1 (C.2.2.1.trans hl.1.symm) C.2.2.2.2.1 (C.2.2.2.2.2.1 _ mX11_rowsUpTo_a34_4) (C.2.2.2.2.2.1 _ mX11_rowsUpTo_a34_5) (C.2.2.2.2.2.1 _ mX11_rowsUpTo_a34_2) (C.2.2.2.2.2.1 _ mX11_rowsUpTo_a34_6) (Nat.le_of_ble_eq_true rfl) (Nat.le_of_ble_eq_true rfl) (Nat.zero_le _) (Nat.zero_le _) dX11_rowsUpTo_6 ?_
  refine lv_topi (fun v1 hv2 => ?_)
  replace h := lt_e hv2 h
  try dsimp only at h
  refine lv_istore (lv' := [(4, .int v1), (0, .int x0), (1, .ref (ad 34)), (2, .int x2), (3, .int x3)]) C.1 C.2.1 dX11_rowsUpTo_9 hl (by decide) rfl (fun ls hl => ?_)
  replace hl := lv_sub (l' := [(0, .int x0), (1, .ref (ad 34)), (2, .int x2), (3, .int x3), (4, .int v1)]) hl [1, 2, 3, 4, 0] rfl
  exact wLX11_rowsUpTo_a34_11 C hK hJ (wLX11_rowsUpTo_a34_31 C hK hJ  5000) 5000 _ _ _ _ _ _ _ h hP hS (lv_sub hl [0, 1, 2, 4] rfl)
theorem metX11_rowsUpTo_a34 (l : Launch) (D : va_G) (cy : Nat → ClassId) (ad st : Nat → Nat) (hJ : JX ad st) (sz : Nat) (x0 : Int32) (x2 : Int32) (x3 : Int32) {u : SX} {r : Int32} {u' : SX} (h : fX11_rowsUpTo_a34 x0 x2 x3 u = some (r, u')) : Met l yX11_rowsUpTo wsX11_rowsUpTo rmX11_rowsUpTo_a34 (va_Pc [.int x0, .ref (ad 34), .int x2, .int x3] (Px D [(cy 0, .int), (cy 1, .long), (cy 2, .boolean), (cy 3, .byte), (cy 4, .object "HissHorn$Text")] st (VX cy ad st) sz u)) (Qi D (VX cy ad st) (AX ad) sz r u') 0 0 (Ax (AX ad) sz) := by
  refine Met.ofW (cc := cX11_rowsUpTo) (maxL := 5) (ret := (some .int)) (by decide) rfl ?_
  intro p e s m args below meth c s₁ B hml hv
  obtain ⟨rfl, hsz, hP, hK⟩ := hv
  subst hsz
  have C : Cx RX11 cX11_rowsUpTo 5 (some .int) wsX11_rowsUpTo p s m _ meth c := ⟨B.exec, B.bytes, hml, B.returns, findClass_of_methodNamed B.named, atoms_spec (ws := wsX11_rowsUpTo) B.pre, B.notSynchronized⟩
  have hl := lv_entry ([.int x0, .ref (ad 34), .int x2, .int x3]) (n := 5) (Nat.le_of_ble_eq_true rfl)
  rw [lg_entry_eq]
  exact wX11_rowsUpTo_a34 C hK hJ x0 x2 x3 h hP va_S.rf hl

theorem zdX6_apart_0 : (and (and (and (and (zk cX6_apart 0 (.iload_n 2) 1) (zk cX6_apart 1 (.iload_n 1) 1)) (zk cX6_apart 2 (.if_icmp .gt 8) 3)) (and (zk cX6_apart 10 (.iconst 1) 1) (zk cX6_apart 11 (.goto 4) 3))) (and (and (and (zk cX6_apart 15 (.ireturn) 1) (zk cX6_apart 5 (.iload_n 3) 1)) (zk cX6_apart 6 (.iload_n 0) 1)) (and (zk cX6_apart 7 (.if_icmp .ge 7) 3) (zk cX6_apart 14 (.iconst 0) 1)))) = true := by decide +kernel
theorem dX6_apart_0 : decode cX6_apart 0 = .ok (.iload_n 2, 1) := zk_of (zk_l (zk_l (zk_l (zk_l zdX6_apart_0))))
theorem dX6_apart_1 : decode cX6_apart 1 = .ok (.iload_n 1, 1) := zk_of (zk_r (zk_l (zk_l (zk_l zdX6_apart_0))))
theorem dX6_apart_2 : decode cX6_apart 2 = .ok (.if_icmp .gt 8, 3) := zk_of (zk_r (zk_l (zk_l zdX6_apart_0)))
theorem dX6_apart_10 : decode cX6_apart 10 = .ok (.iconst 1, 1) := zk_of (zk_l (zk_r (zk_l zdX6_apart_0)))
theorem dX6_apart_11 : decode cX6_apart 11 = .ok (.goto 4, 3) := zk_of (zk_r (zk_r (zk_l zdX6_apart_0)))
theorem dX6_apart_15 : decode cX6_apart 15 = .ok (.ireturn, 1) := zk_of (zk_l (zk_l (zk_l (zk_r zdX6_apart_0))))
theorem dX6_apart_5 : decode cX6_apart 5 = .ok (.iload_n 3, 1) := zk_of (zk_r (zk_l (zk_l (zk_r zdX6_apart_0))))
theorem dX6_apart_6 : decode cX6_apart 6 = .ok (.iload_n 0, 1) := zk_of (zk_r (zk_l (zk_r zdX6_apart_0)))
theorem dX6_apart_7 : decode cX6_apart 7 = .ok (.if_icmp .ge 7, 3) := zk_of (zk_l (zk_r (zk_r zdX6_apart_0)))
theorem dX6_apart_14 : decode cX6_apart 14 = .ok (.iconst 0, 1) := zk_of (zk_r (zk_r (zk_r zdX6_apart_0)))
/-- HissHorn$Parts.apart(IIII)Z -/
def rmX6_apart : Room := { frames := 0, cells := 0, slots := 0, locals := 0 }
def fX6_apart (x0 : Int32) (x1 : Int32) (x2 : Int32) (x3 : Int32) : Option Int32 := (if x1 < x2 then (gd (isB 1) (some 1)) else (if x0 ≤ x3 then (gd (isB 0) (some 0)) else (gd (isB 1) (some 1))))
set_option maxHeartbeats 4000000 in
set_option maxRecDepth 100000 in
theorem wX6_apart {p : Program} {l : Launch} {e : Env} {s : State} {m : MethodId} {args : Array Value} {below : List Frame} {meth : Method} {c : Code} {D : va_G} {cy : Nat → ClassId} {st : Nat → Nat} (C : Cx RX6 cX6_apart 4 (some .boolean) wsX6_apart p s m args meth c) (hK : Ky D [(cy 0, .int), (cy 1, .long), (cy 2, .boolean), (cy 3, .byte), (cy 4, .object "HissHorn$Text")] st s) (x0 : Int32) (x1 : Int32) (x2 : Int32) (x3 : Int32) {r : Int32} {H : Heap} {locs : List Loc} {ls : Array Slot} (h : fX6_apart x0 x1 x2 x3 = some r) (hP : va_P D vwCl (V0 u00) H) (hS : va_S (Ax (A0) s.heap.size) s.heap H locs) (hl : lv_has ls 4 [(0, .int x0), (1, .int x1), (2, .int x2), (3, .int x3)]) : W p l e rmX6_apart s m args below meth c H locs 0 0 (MQ below (Qi D (V0) (A0) s.heap.size r u00) args s 0 0 (Ax (A0) s.heap.size)) (F0 m 0 ls []) := by
  unfold fX6_apart at h
  refine lv_iload_n C.1 C.2.1 dX6_apart_0 rfl (lv_at hl 2 rfl) ?_
  refine lv_iload_n C.1 C.2.1 dX6_apart_1 rfl (lv_at hl 1 rfl) ?_
  refine lv_icmp_gt (tgt := 10) C.1 C.2.1 dX6_apart_2 (by decide) (fun c2 => ?_) (fun c2 => ?_)
  · rw [if_pos c2] at h
    refine lv_iconst (v := 1) C.1 C.2.1 dX6_apart_10 (by decide) ?_
    refine lv_goto (tgt := 15) C.1 C.2.1 dX6_apart_11 (by decide) ?_
    obtain ⟨hg1, h⟩ := gd_some h
    cases h
    exact rt_z hg1 C hP hS dX6_apart_15
  · rw [if_neg c2] at h
    refine lv_iload_n C.1 C.2.1 dX6_apart_5 rfl (lv_at hl 3 rfl) ?_
    refine lv_iload_n C.1 C.2.1 dX6_apart_6 rfl (lv_at hl 0 rfl) ?_
    refine lv_icmp_ge (tgt := 14) C.1 C.2.1 dX6_apart_7 (by decide) (fun c7 => ?_) (fun c7 => ?_)
    · rw [if_pos c7] at h
      refine lv_iconst (v := 0) C.1 C.2.1 dX6_apart_14 (by decide) ?_
      obtain ⟨hg2, h⟩ := gd_some h
      cases h
      exact rt_z hg2 C hP hS dX6_apart_15
    · rw [if_neg c7] at h
      refine lv_iconst (v := 1) C.1 C.2.1 dX6_apart_10 (by decide) ?_
      refine lv_goto (tgt := 15) C.1 C.2.1 dX6_apart_11 (by decide) ?_
      obtain ⟨hg3, h⟩ := gd_some h
      cases h
      exact rt_z hg3 C hP hS dX6_apart_15
theorem metX6_apart (l : Launch) (D : va_G) (cy : Nat → ClassId) (st : Nat → Nat) (sz : Nat) (x0 : Int32) (x1 : Int32) (x2 : Int32) (x3 : Int32) {r : Int32} (h : fX6_apart x0 x1 x2 x3 = some r) : Met l yX6_apart wsX6_apart rmX6_apart (va_Pc [.int x0, .int x1, .int x2, .int x3] (Px D [(cy 0, .int), (cy 1, .long), (cy 2, .boolean), (cy 3, .byte), (cy 4, .object "HissHorn$Text")] st V0 sz u00)) (Qi D V0 A0 sz r u00) 0 0 (Ax A0 sz) := by
  refine Met.ofW (cc := cX6_apart) (maxL := 4) (ret := (some .boolean)) (by decide) rfl ?_
  intro p e s m args below meth c s₁ B hml hv
  obtain ⟨rfl, hsz, hP, hK⟩ := hv
  subst hsz
  have C : Cx RX6 cX6_apart 4 (some .boolean) wsX6_apart p s m _ meth c := ⟨B.exec, B.bytes, hml, B.returns, findClass_of_methodNamed B.named, atoms_spec (ws := wsX6_apart) B.pre, B.notSynchronized⟩
  have hl := lv_entry ([.int x0, .int x1, .int x2, .int x3]) (n := 4) (Nat.le_of_ble_eq_true rfl)
  rw [lg_entry_eq]
  exact wX6_apart C hK x0 x1 x2 x3 h hP va_S.rf hl

theorem zdX6_apply_83 : (and (and (and (and (and (zk cX6_apply 83 (.iastore) 1) (zk cX6_apply 84 (.aload_n 0) 1)) (and (zk cX6_apply 85 (.getfield 24) 3) (zk cX6_apply 88 (.iload_n 2) 1))) (and (and (zk cX6_apply 89 (.iload 5) 2) (zk cX6_apply 91 (.ifCond .eq 8) 3)) (and (zk cX6_apply 99 (.aload_n 0) 1) (zk cX6_apply 100 (.getfield 24) 3)))) (and (and (and (zk cX6_apply 103 (.iload_n 2) 1) (zk cX6_apply 104 (.iaload) 1)) (and (zk cX6_apply 105 (.iload 4) 2) (zk cX6_apply 107 (.invokestatic 80) 3))) (and (and (zk cX6_apply 110 (.iastore) 1) (zk cX6_apply 111 (.return_) 1)) (and (zk cX6_apply 94 (.iload 4) 2) (zk cX6_apply 96 (.goto 14) 3))))) (and (and (and (and (zk cX6_apply 57 (.istore 5) 2) (zk cX6_apply 59 (.aload_n 0) 1)) (and (zk cX6_apply 60 (.getfield 21) 3) (zk cX6_apply 63 (.iload_n 2) 1))) (and (and (zk cX6_apply 64 (.iload 5) 2) (zk cX6_apply 66 (.ifCond .eq 7) 3)) (and (zk cX6_apply 73 (.aload_n 0) 1) (zk cX6_apply 74 (.getfield 21) 3)))) (and (and (and (zk cX6_apply 77 (.iload_n 2) 1) (zk cX6_apply 78 (.iaload) 1)) (and (zk cX6_apply 79 (.iload_n 3) 1) (zk cX6_apply 80 (.invokestatic 74) 3))) (and (and (zk cX6_apply 69 (.iload_n 3) 1) (zk cX6_apply 70 (.goto 13) 3)) (and (zk cX6_apply 52 (.iconst 1) 1) (zk cX6_apply 53 (.goto 4) 3)))))) = true := by decide +kernel
theorem dX6_apply_83 : decode cX6_apply 83 = .ok (.iastore, 1) := zk_of (zk_l (zk_l (zk_l (zk_l (zk_l zdX6_apply_83)))))
theorem dX6_apply_84 : decode cX6_apply 84 = .ok (.aload_n 0, 1) := zk_of (zk_r (zk_l (zk_l (zk_l (zk_l zdX6_apply_83)))))
theorem dX6_apply_85 : decode cX6_apply 85 = .ok (.getfield 24, 3) := zk_of (zk_l (zk_r (zk_l (zk_l (zk_l zdX6_apply_83)))))
theorem dX6_apply_88 : decode cX6_apply 88 = .ok (.iload_n 2, 1) := zk_of (zk_r (zk_r (zk_l (zk_l (zk_l zdX6_apply_83)))))
theorem dX6_apply_89 : decode cX6_apply 89 = .ok (.iload 5, 2) := zk_of (zk_l (zk_l (zk_r (zk_l (zk_l zdX6_apply_83)))))
theorem dX6_apply_91 : decode cX6_apply 91 = .ok (.ifCond .eq 8, 3) := zk_of (zk_r (zk_l (zk_r (zk_l (zk_l zdX6_apply_83)))))
theorem dX6_apply_99 : decode cX6_apply 99 = .ok (.aload_n 0, 1) := zk_of (zk_l (zk_r (zk_r (zk_l (zk_l zdX6_apply_83)))))
theorem dX6_apply_100 : decode cX6_apply 100 = .ok (.getfield 24, 3) := zk_of (zk_r (zk_r (zk_r (zk_l (zk_l zdX6_apply_83)))))
theorem dX6_apply_103 : decode cX6_apply 103 = .ok (.iload_n 2, 1) := zk_of (zk_l (zk_l (zk_l (zk_r (zk_l zdX6_apply_83)))))
theorem dX6_apply_104 : decode cX6_apply 104 = .ok (.iaload, 1) := zk_of (zk_r (zk_l (zk_l (zk_r (zk_l zdX6_apply_83)))))
theorem dX6_apply_105 : decode cX6_apply 105 = .ok (.iload 4, 2) := zk_of (zk_l (zk_r (zk_l (zk_r (zk_l zdX6_apply_83)))))
theorem dX6_apply_107 : decode cX6_apply 107 = .ok (.invokestatic 80, 3) := zk_of (zk_r (zk_r (zk_l (zk_r (zk_l zdX6_apply_83)))))
theorem dX6_apply_110 : decode cX6_apply 110 = .ok (.iastore, 1) := zk_of (zk_l (zk_l (zk_r (zk_r (zk_l zdX6_apply_83)))))
theorem dX6_apply_111 : decode cX6_apply 111 = .ok (.return_, 1) := zk_of (zk_r (zk_l (zk_r (zk_r (zk_l zdX6_apply_83)))))
theorem dX6_apply_94 : decode cX6_apply 94 = .ok (.iload 4, 2) := zk_of (zk_l (zk_r (zk_r (zk_r (zk_l zdX6_apply_83)))))
theorem dX6_apply_96 : decode cX6_apply 96 = .ok (.goto 14, 3) := zk_of (zk_r (zk_r (zk_r (zk_r (zk_l zdX6_apply_83)))))
theorem dX6_apply_57 : decode cX6_apply 57 = .ok (.istore 5, 2) := zk_of (zk_l (zk_l (zk_l (zk_l (zk_r zdX6_apply_83)))))
theorem dX6_apply_59 : decode cX6_apply 59 = .ok (.aload_n 0, 1) := zk_of (zk_r (zk_l (zk_l (zk_l (zk_r zdX6_apply_83)))))
theorem dX6_apply_60 : decode cX6_apply 60 = .ok (.getfield 21, 3) := zk_of (zk_l (zk_r (zk_l (zk_l (zk_r zdX6_apply_83)))))
theorem dX6_apply_63 : decode cX6_apply 63 = .ok (.iload_n 2, 1) := zk_of (zk_r (zk_r (zk_l (zk_l (zk_r zdX6_apply_83)))))
theorem dX6_apply_64 : decode cX6_apply 64 = .ok (.iload 5, 2) := zk_of (zk_l (zk_l (zk_r (zk_l (zk_r zdX6_apply_83)))))
theorem dX6_apply_66 : decode cX6_apply 66 = .ok (.ifCond .eq 7, 3) := zk_of (zk_r (zk_l (zk_r (zk_l (zk_r zdX6_apply_83)))))
theorem dX6_apply_73 : decode cX6_apply 73 = .ok (.aload_n 0, 1) := zk_of (zk_l (zk_r (zk_r (zk_l (zk_r zdX6_apply_83)))))
theorem dX6_apply_74 : decode cX6_apply 74 = .ok (.getfield 21, 3) := zk_of (zk_r (zk_r (zk_r (zk_l (zk_r zdX6_apply_83)))))
theorem dX6_apply_77 : decode cX6_apply 77 = .ok (.iload_n 2, 1) := zk_of (zk_l (zk_l (zk_l (zk_r (zk_r zdX6_apply_83)))))
theorem dX6_apply_78 : decode cX6_apply 78 = .ok (.iaload, 1) := zk_of (zk_r (zk_l (zk_l (zk_r (zk_r zdX6_apply_83)))))
theorem dX6_apply_79 : decode cX6_apply 79 = .ok (.iload_n 3, 1) := zk_of (zk_l (zk_r (zk_l (zk_r (zk_r zdX6_apply_83)))))
theorem dX6_apply_80 : decode cX6_apply 80 = .ok (.invokestatic 74, 3) := zk_of (zk_r (zk_r (zk_l (zk_r (zk_r zdX6_apply_83)))))
theorem dX6_apply_69 : decode cX6_apply 69 = .ok (.iload_n 3, 1) := zk_of (zk_l (zk_l (zk_r (zk_r (zk_r zdX6_apply_83)))))
theorem dX6_apply_70 : decode cX6_apply 70 = .ok (.goto 13, 3) := zk_of (zk_r (zk_l (zk_r (zk_r (zk_r zdX6_apply_83)))))
theorem dX6_apply_52 : decode cX6_apply 52 = .ok (.iconst 1, 1) := zk_of (zk_l (zk_r (zk_r (zk_r (zk_r zdX6_apply_83)))))
theorem dX6_apply_53 : decode cX6_apply 53 = .ok (.goto 4, 3) := zk_of (zk_r (zk_r (zk_r (zk_r (zk_r zdX6_apply_83)))))
theorem zdX6_apply_0 : (and (and (and (and (and (zk cX6_apply 0 (.aload_n 0) 1) (zk cX6_apply 1 (.getfield 33) 3)) (and (zk cX6_apply 4 (.iload_n 1) 1) (zk cX6_apply 5 (.iaload) 1))) (and (and (zk cX6_apply 6 (.istore_n 2) 1) (zk cX6_apply 7 (.aload_n 0) 1)) (and (zk cX6_apply 8 (.getfield 36) 3) (zk cX6_apply 11 (.iload_n 1) 1)))) (and (and (and (zk cX6_apply 12 (.iaload) 1) (zk cX6_apply 13 (.istore_n 3) 1)) (and (zk cX6_apply 14 (.aload_n 0) 1) (zk cX6_apply 15 (.getfield 39) 3))) (and (and (zk cX6_apply 18 (.iload_n 1) 1) (zk cX6_apply 19 (.iaload) 1)) (and (zk cX6_apply 20 (.istore 4) 2) (zk cX6_apply 22 (.aload_n 0) 1))))) (and (and (and (and (zk cX6_apply 23 (.getfield 45) 3) (zk cX6_apply 26 (.iload_n 1) 1)) (and (zk cX6_apply 27 (.baload) 1) (zk cX6_apply 28 (.ifCond .ne 24) 3))) (and (and (zk cX6_apply 31 (.aload_n 0) 1) (zk cX6_apply 32 (.getfield 21) 3)) (and (zk cX6_apply 35 (.iload_n 2) 1) (zk cX6_apply 36 (.iaload) 1)))) (and (and (and (zk cX6_apply 37 (.aload_n 0) 1) (zk cX6_apply 38 (.getfield 24) 3)) (and (zk cX6_apply 41 (.iload_n 2) 1) (zk cX6_apply 42 (.iaload) 1))) (and (and (zk cX6_apply 43 (.iload_n 3) 1) (zk cX6_apply 44 (.iload 4) 2)) (and (zk cX6_apply 46 (.invokestatic 70) 3) (zk cX6_apply 49 (.ifCond .eq 7) 3)))))) = true := by decide +kernel
theorem dX6_apply_0 : decode cX6_apply 0 = .ok (.aload_n 0, 1) := zk_of (zk_l (zk_l (zk_l (zk_l (zk_l zdX6_apply_0)))))
theorem dX6_apply_1 : decode cX6_apply 1 = .ok (.getfield 33, 3) := zk_of (zk_r (zk_l (zk_l (zk_l (zk_l zdX6_apply_0)))))
theorem dX6_apply_4 : decode cX6_apply 4 = .ok (.iload_n 1, 1) := zk_of (zk_l (zk_r (zk_l (zk_l (zk_l zdX6_apply_0)))))
theorem dX6_apply_5 : decode cX6_apply 5 = .ok (.iaload, 1) := zk_of (zk_r (zk_r (zk_l (zk_l (zk_l zdX6_apply_0)))))
theorem dX6_apply_6 : decode cX6_apply 6 = .ok (.istore_n 2, 1) := zk_of (zk_l (zk_l (zk_r (zk_l (zk_l zdX6_apply_0)))))
theorem dX6_apply_7 : decode cX6_apply 7 = .ok (.aload_n 0, 1) := zk_of (zk_r (zk_l (zk_r (zk_l (zk_l zdX6_apply_0)))))
theorem dX6_apply_8 : decode cX6_apply 8 = .ok (.getfield 36, 3) := zk_of (zk_l (zk_r (zk_r (zk_l (zk_l zdX6_apply_0)))))
theorem dX6_apply_11 : decode cX6_apply 11 = .ok (.iload_n 1, 1) := zk_of (zk_r (zk_r (zk_r (zk_l (zk_l zdX6_apply_0)))))
theorem dX6_apply_12 : decode cX6_apply 12 = .ok (.iaload, 1) := zk_of (zk_l (zk_l (zk_l (zk_r (zk_l zdX6_apply_0)))))
theorem dX6_apply_13 : decode cX6_apply 13 = .ok (.istore_n 3, 1) := zk_of (zk_r (zk_l (zk_l (zk_r (zk_l zdX6_apply_0)))))
theorem dX6_apply_14 : decode cX6_apply 14 = .ok (.aload_n 0, 1) := zk_of (zk_l (zk_r (zk_l (zk_r (zk_l zdX6_apply_0)))))
theorem dX6_apply_15 : decode cX6_apply 15 = .ok (.getfield 39, 3) := zk_of (zk_r (zk_r (zk_l (zk_r (zk_l zdX6_apply_0)))))
theorem dX6_apply_18 : decode cX6_apply 18 = .ok (.iload_n 1, 1) := zk_of (zk_l (zk_l (zk_r (zk_r (zk_l zdX6_apply_0)))))
theorem dX6_apply_19 : decode cX6_apply 19 = .ok (.iaload, 1) := zk_of (zk_r (zk_l (zk_r (zk_r (zk_l zdX6_apply_0)))))
theorem dX6_apply_20 : decode cX6_apply 20 = .ok (.istore 4, 2) := zk_of (zk_l (zk_r (zk_r (zk_r (zk_l zdX6_apply_0)))))
theorem dX6_apply_22 : decode cX6_apply 22 = .ok (.aload_n 0, 1) := zk_of (zk_r (zk_r (zk_r (zk_r (zk_l zdX6_apply_0)))))
theorem dX6_apply_23 : decode cX6_apply 23 = .ok (.getfield 45, 3) := zk_of (zk_l (zk_l (zk_l (zk_l (zk_r zdX6_apply_0)))))
theorem dX6_apply_26 : decode cX6_apply 26 = .ok (.iload_n 1, 1) := zk_of (zk_r (zk_l (zk_l (zk_l (zk_r zdX6_apply_0)))))
theorem dX6_apply_27 : decode cX6_apply 27 = .ok (.baload, 1) := zk_of (zk_l (zk_r (zk_l (zk_l (zk_r zdX6_apply_0)))))
theorem dX6_apply_28 : decode cX6_apply 28 = .ok (.ifCond .ne 24, 3) := zk_of (zk_r (zk_r (zk_l (zk_l (zk_r zdX6_apply_0)))))
theorem dX6_apply_31 : decode cX6_apply 31 = .ok (.aload_n 0, 1) := zk_of (zk_l (zk_l (zk_r (zk_l (zk_r zdX6_apply_0)))))
theorem dX6_apply_32 : decode cX6_apply 32 = .ok (.getfield 21, 3) := zk_of (zk_r (zk_l (zk_r (zk_l (zk_r zdX6_apply_0)))))
theorem dX6_apply_35 : decode cX6_apply 35 = .ok (.iload_n 2, 1) := zk_of (zk_l (zk_r (zk_r (zk_l (zk_r zdX6_apply_0)))))
theorem dX6_apply_36 : decode cX6_apply 36 = .ok (.iaload, 1) := zk_of (zk_r (zk_r (zk_r (zk_l (zk_r zdX6_apply_0)))))
theorem dX6_apply_37 : decode cX6_apply 37 = .ok (.aload_n 0, 1) := zk_of (zk_l (zk_l (zk_l (zk_r (zk_r zdX6_apply_0)))))
theorem dX6_apply_38 : decode cX6_apply 38 = .ok (.getfield 24, 3) := zk_of (zk_r (zk_l (zk_l (zk_r (zk_r zdX6_apply_0)))))
theorem dX6_apply_41 : decode cX6_apply 41 = .ok (.iload_n 2, 1) := zk_of (zk_l (zk_r (zk_l (zk_r (zk_r zdX6_apply_0)))))
theorem dX6_apply_42 : decode cX6_apply 42 = .ok (.iaload, 1) := zk_of (zk_r (zk_r (zk_l (zk_r (zk_r zdX6_apply_0)))))
theorem dX6_apply_43 : decode cX6_apply 43 = .ok (.iload_n 3, 1) := zk_of (zk_l (zk_l (zk_r (zk_r (zk_r zdX6_apply_0)))))
theorem dX6_apply_44 : decode cX6_apply 44 = .ok (.iload 4, 2) := zk_of (zk_r (zk_l (zk_r (zk_r (zk_r zdX6_apply_0)))))
theorem dX6_apply_46 : decode cX6_apply 46 = .ok (.invokestatic 70, 3) := zk_of (zk_l (zk_r (zk_r (zk_r (zk_r zdX6_apply_0)))))
theorem dX6_apply_49 : decode cX6_apply 49 = .ok (.ifCond .eq 7, 3) := zk_of (zk_r (zk_r (zk_r (zk_r (zk_r zdX6_apply_0)))))
set_option maxRecDepth 20000 in
theorem ggX6_apply_X6_apart : GoodIn wsX6_apply wsX6_apart := ggi (fun w h => List.mem_cons_of_mem _ (List.mem_append_left _ (List.mem_append_right _ h))) gs_X6_apart
set_option maxRecDepth 20000 in
theorem gX6_apply_X6_apart : GoodIn wsX6_apply (va_wsS RX6 70 yX6_apart wsX6_apart) := goodIn_app (goodIn_of _ (by decide +kernel)) ggX6_apply_X6_apart
theorem dX6_apply_56 : decode cX6_apply 56 = .ok (.iconst 0, 1) := by decide +kernel
/-- HissHorn$Parts.apply(I)V of cell 6 -/
def rmX6_apply_6 : Room := { frames := 1, cells := 0, slots := 0, locals := 23 }
theorem hX6_apply_6_X6 : ∀ w ∈ u_ws RX6 TX6 17, w ∈ wsX6_apply := fun w h => (List.mem_cons_of_mem _ (List.mem_append_right _ h))
theorem mX6_apply_6_1 : Cond.fieldLink RX6 33 "HissHorn$Parts" "changePart" "[I" ∈ wsX6_apply := (List.mem_cons_of_mem _ (List.mem_append_left _ (List.mem_append_left _ (List.mem_of_getElem? (i := 3) rfl))))
theorem mX6_apply_6_2 : Cond.fieldLink RX6 36 "HissHorn$Parts" "changeFrom" "[I" ∈ wsX6_apply := (List.mem_cons_of_mem _ (List.mem_append_left _ (List.mem_append_left _ (List.mem_of_getElem? (i := 4) rfl))))
theorem mX6_apply_6_3 : Cond.fieldLink RX6 39 "HissHorn$Parts" "changeTo" "[I" ∈ wsX6_apply := (List.mem_cons_of_mem _ (List.mem_append_left _ (List.mem_append_left _ (List.mem_of_getElem? (i := 5) rfl))))
theorem mX6_apply_6_4 : Cond.fieldLink RX6 45 "HissHorn$Parts" "cleaned" "[Z" ∈ wsX6_apply := (List.mem_cons_of_mem _ (List.mem_append_left _ (List.mem_append_left _ (List.mem_of_getElem? (i := 6) rfl))))
theorem mX6_apply_6_5 : Cond.fieldLink RX6 21 "HissHorn$Parts" "low" "[I" ∈ wsX6_apply := (List.mem_cons_of_mem _ (List.mem_append_left _ (List.mem_append_left _ (List.mem_of_getElem? (i := 7) rfl))))
theorem mX6_apply_6_6 : Cond.methodLink RX6 74 Lib.Math.max.name ∈ wsX6_apply := (List.mem_cons_of_mem _ (List.mem_append_left _ (List.mem_append_left _ (List.mem_of_getElem? (i := 8) rfl))))
theorem mX6_apply_6_7 : Cond.static Lib.Math.max.name ∈ wsX6_apply := (List.mem_cons_of_mem _ (List.mem_append_left _ (List.mem_append_left _ (List.mem_of_getElem? (i := 9) rfl))))
theorem mX6_apply_6_8 : Cond.initialized "java/lang/Math" ∈ wsX6_apply := (List.mem_cons_of_mem _ (List.mem_append_left _ (List.mem_append_left _ (List.mem_of_getElem? (i := 10) rfl))))
theorem mX6_apply_6_9 : Cond.code Lib.Math.max.name Lib.Math.max.code 2 (some .int) ∈ wsX6_apply := (List.mem_cons_of_mem _ (List.mem_append_left _ (List.mem_append_left _ (List.mem_of_getElem? (i := 11) rfl))))
theorem mX6_apply_6_10 : Cond.fieldLink RX6 24 "HissHorn$Parts" "high" "[I" ∈ wsX6_apply := (List.mem_cons_of_mem _ (List.mem_append_left _ (List.mem_append_left _ (List.mem_of_getElem? (i := 12) rfl))))
theorem mX6_apply_6_11 : Cond.methodLink RX6 80 Lib.Math.min.name ∈ wsX6_apply := (List.mem_cons_of_mem _ (List.mem_append_left _ (List.mem_append_left _ (List.mem_of_getElem? (i := 13) rfl))))
theorem mX6_apply_6_12 : Cond.static Lib.Math.min.name ∈ wsX6_apply := (List.mem_cons_of_mem _ (List.mem_append_left _ (List.mem_append_left _ (List.mem_of_getElem? (i := 14) rfl))))
theorem mX6_apply_6_13 : Cond.code Lib.Math.min.name Lib.Math.min.code 2 (some .int) ∈ wsX6_apply := (List.mem_cons_of_mem _ (List.mem_append_left _ (List.mem_append_left _ (List.mem_of_getElem? (i := 15) rfl))))
def GX6_apply_6_83 (z2 : Int32) (z4 : Int32) (z5 : Int32) (y0 : Int32) (y1 : Int32) (u : SX) : Option (Int32 × SX) := (gd (inb y1 12) (lt (sA u 27 (upd (u.2.1 27) y1.toNatClampNeg y0)) fun u13 => (if z5 = 0 then (gd (inb z2 12) (gd (inb z2 12) (lt (sA u13 28 (upd (u13.2.1 28) z2.toNatClampNeg (if z4 < (u13.2.1 28 z2.toNatClampNeg) then z4 else (u13.2.1 28 z2.toNatClampNeg)))) fun u17 => (some (0, u17))))) else (gd (inb z2 12) (lt (sA u13 28 (upd (u13.2.1 28) z2.toNatClampNeg z4)) fun u20 => (some (0, u20)))))))
def GX6_apply_6_57 (z2 : Int32) (z3 : Int32) (z4 : Int32) (y0 : Int32) (u : SX) : Option (Int32 × SX) := (if y0 = 0 then (gd (inb z2 12) (GX6_apply_6_83 z2 z4 y0 (if (u.2.1 27 z2.toNatClampNeg) < z3 then z3 else (u.2.1 27 z2.toNatClampNeg)) z2 u)) else (GX6_apply_6_83 z2 z4 y0 z3 z2 u))
def GX6_apply_6_52 (z2 : Int32) (z3 : Int32) (z4 : Int32) (u : SX) : Option (Int32 × SX) := (GX6_apply_6_57 z2 z3 z4 1 u)
def fX6_apply_6 (x1 : Int32) (u : SX) : Option (Int32 × SX) := (gd (inb x1 30) (lt (u.2.1 31 x1.toNatClampNeg) fun v2 => (gd (inb x1 30) (lt (u.2.1 32 x1.toNatClampNeg) fun v5 => (gd (inb x1 30) (lt (u.2.1 33 x1.toNatClampNeg) fun v8 => (gd (inb x1 30) (if (u.2.1 35 x1.toNatClampNeg) = 0 then (gd (inb v2 12) (gd (inb v2 12) ((fX6_apart (u.2.1 27 v2.toNatClampNeg) (u.2.1 28 v2.toNatClampNeg) v5 v8).bind fun r24 => (if r24 = 0 then (GX6_apply_6_57 v2 v5 v8 0 u) else (GX6_apply_6_52 v2 v5 v8 u))))) else (GX6_apply_6_52 v2 v5 v8 u)))))))))
set_option maxHeartbeats 4000000 in
set_option maxRecDepth 100000 in
theorem wGX6_apply_6_83 {p : Program} {l : Launch} {e : Env} {s : State} {m : MethodId} {args : Array Value} {below : List Frame} {meth : Method} {c : Code} {D : va_G} {cy : Nat → ClassId} {ad st : Nat → Nat} (C : Cx RX6 cX6_apply 6 none wsX6_apply p s m args meth c) (hK : Ky D [(cy 0, .int), (cy 1, .long), (cy 2, .boolean), (cy 3, .byte), (cy 4, .object "HissHorn$Text")] st s) (hJ : JX ad st) {r : Int32} {u' : SX}   (z2 : Int32) (z4 : Int32) (z5 : Int32) (y0 : Int32) (y1 : Int32) (u : SX) (H : Heap) (locs : List Loc) (ls : Array Slot) (h : GX6_apply_6_83 z2 z4 z5 y0 y1 u = some (r, u')) (hP : va_P D vwCl (VX cy ad st u) H) (hS : va_S (Ax (AX ad) s.heap.size) s.heap H locs) (hl : lv_has ls 6 [(0, .ref (ad 6)), (2, .int z2), (4, .int z4), (5, .int z5)]) : W p l e rmX6_apply_6 s m args below meth c H locs 0 0 (MQ below (Qv D (VX cy ad st) (AX ad) s.heap.size r u') args s 0 0 (Ax (AX ad) s.heap.size)) (F0 m 83 ls [.int y0, .int y1, .ref (ad 27)]) := by
  unfold GX6_apply_6_83 at h
  obtain ⟨hg12, h⟩ := gd_some h
  refine tX_27 C hK hP hJ hS hg12 dX6_apply_83 (fun H locs hP hS => ?_)
  obtain ⟨u13, hu14, h⟩ := lt_some h
  rw [← hu14] at hP
  refine lv_aload_n C.1 C.2.1 dX6_apply_84 rfl (lv_at hl 0 rfl) ?_
  refine gX_6_high C hX6_apply_6_X6 hK hP mX6_apply_6_10 dX6_apply_85 ?_
  refine lv_iload_n C.1 C.2.1 dX6_apply_88 rfl (lv_at hl 1 rfl) ?_
  refine lv_iload C.1 C.2.1 dX6_apply_89 (lv_at hl 3 rfl) ?_
  refine lv_if_eq (tgt := 99) C.1 C.2.1 dX6_apply_91 (by decide) (fun c91 => ?_) (fun c91 => ?_)
  · rw [if_pos c91] at h
    refine lv_aload_n C.1 C.2.1 dX6_apply_99 rfl (lv_at hl 0 rfl) ?_
    refine gX_6_high C hX6_apply_6_X6 hK hP mX6_apply_6_10 dX6_apply_100 ?_
    refine lv_iload_n C.1 C.2.1 dX6_apply_103 rfl (lv_at hl 1 rfl) ?_
    obtain ⟨hg15, h⟩ := gd_some h
    refine lX_28 C hK hP hg15 dX6_apply_104 ?_
    refine lv_iload C.1 C.2.1 dX6_apply_105 (lv_at hl 2 rfl) ?_
    refine va_mmin C.1 C.2.1 (C.2.2.1.trans hl.1.symm) C.2.2.2.2.1 (C.2.2.2.2.2.1 _ mX6_apply_6_11) (C.2.2.2.2.2.1 _ mX6_apply_6_12) (C.2.2.2.2.2.1 _ mX6_apply_6_8) (C.2.2.2.2.2.1 _ mX6_apply_6_13) (Nat.le_of_ble_eq_true rfl) (Nat.le_of_ble_eq_true rfl) (Nat.zero_le _) (Nat.zero_le _) dX6_apply_107 ?_
    obtain ⟨hg16, h⟩ := gd_some h
    refine tX_28 C hK hP hJ hS hg16 dX6_apply_110 (fun H locs hP hS => ?_)
    obtain ⟨u17, hu18, h⟩ := lt_some h
    rw [← hu18] at hP
    cases h
    exact rt_v C hP hS dX6_apply_111
  · rw [if_neg c91] at h
    refine lv_iload C.1 C.2.1 dX6_apply_94 (lv_at hl 2 rfl) ?_
    refine lv_goto (tgt := 110) C.1 C.2.1 dX6_apply_96 (by decide) ?_
    obtain ⟨hg19, h⟩ := gd_some h
    refine tX_28 C hK hP hJ hS hg19 dX6_apply_110 (fun H locs hP hS => ?_)
    obtain ⟨u20, hu21, h⟩ := lt_some h
    rw [← hu21] at hP
    cases h
    exact rt_v C hP hS dX6_apply_111
set_option maxHeartbeats 4000000 in
set_option maxRecDepth 100000 in
theorem wGX6_apply_6_57 {p : Program} {l : Launch} {e : Env} {s : State} {m : MethodId} {args : Array Value} {below : List Frame} {meth : Method} {c : Code} {D : va_G} {cy : Nat → ClassId} {ad st : Nat → Nat} (C : Cx RX6 cX6_apply 6 none wsX6_apply p s m args meth c) (hK : Ky D [(cy 0, .int), (cy 1, .long), (cy 2, .boolean), (cy 3, .byte), (cy 4, .object "HissHorn$Text")] st s) (hJ : JX ad st) {r : Int32} {u' : SX}   (z2 : Int32) (z3 : Int32) (z4 : Int32) (y0 : Int32) (u : SX) (H : Heap) (locs : List Loc) (ls : Array Slot) (h : GX6_apply_6_57 z2 z3 z4 y0 u = some (r, u')) (hP : va_P D vwCl (VX cy ad st u) H) (hS : va_S (Ax (AX ad) s.heap.size) s.heap H locs) (hl : lv_has ls 6 [(0, .ref (ad 6)), (2, .int z2), (3, .int z3), (4, .int z4)]) : W p l e rmX6_apply_6 s m args below meth c H locs 0 0 (MQ below (Qv D (VX cy ad st) (AX ad) s.heap.size r u') args s 0 0 (Ax (AX ad) s.heap.size)) (F0 m 57 ls [.int y0]) := by
  unfold GX6_apply_6_57 at h
  refine lv_istore (lv' := [(5, .int y0), (0, .ref (ad 6)), (2, .int z2), (3, .int z3), (4, .int z4)]) C.1 C.2.1 dX6_apply_57 hl (by decide) rfl (fun ls hl => ?_)
  replace hl := lv_sub (l' := [(0, .ref (ad 6)), (2, .int z2), (3, .int z3), (4, .int z4), (5, .int y0)]) hl [1, 2, 3, 4, 0] rfl
  refine lv_aload_n C.1 C.2.1 dX6_apply_59 rfl (lv_at hl 0 rfl) ?_
  refine gX_6_low C hX6_apply_6_X6 hK hP mX6_apply_6_5 dX6_apply_60 ?_
  refine lv_iload_n C.1 C.2.1 dX6_apply_63 rfl (lv_at hl 1 rfl) ?_
  refine lv_iload C.1 C.2.1 dX6_apply_64 (lv_at hl 4 rfl) ?_
  refine lv_if_eq (tgt := 73) C.1 C.2.1 dX6_apply_66 (by decide) (fun c66 => ?_) (fun c66 => ?_)
  · rw [if_pos c66] at h
    refine lv_aload_n C.1 C.2.1 dX6_apply_73 rfl (lv_at hl 0 rfl) ?_
    refine gX_6_low C hX6_apply_6_X6 hK hP mX6_apply_6_5 dX6_apply_74 ?_
    refine lv_iload_n C.1 C.2.1 dX6_apply_77 rfl (lv_at hl 1 rfl) ?_
    obtain ⟨hg11, h⟩ := gd_some h
    refine lX_27 C hK hP hg11 dX6_apply_78 ?_
    refine lv_iload_n C.1 C.2.1 dX6_apply_79 rfl (lv_at hl 2 rfl) ?_
    refine va_mmax C.1 C.2.1 (C.2.2.1.trans hl.1.symm) C.2.2.2.2.1 (C.2.2.2.2.2.1 _ mX6_apply_6_6) (C.2.2.2.2.2.1 _ mX6_apply_6_7) (C.2.2.2.2.2.1 _ mX6_apply_6_8) (C.2.2.2.2.2.1 _ mX6_apply_6_9) (Nat.le_of_ble_eq_true rfl) (Nat.le_of_ble_eq_true rfl) (Nat.zero_le _) (Nat.zero_le _) dX6_apply_80 ?_
    exact wGX6_apply_6_83 C hK hJ _ _ _ _ _ _ _ _ _ h hP hS (lv_sub hl [0, 1, 3, 4] rfl)
  · rw [if_neg c66] at h
    refine lv_iload_n C.1 C.2.1 dX6_apply_69 rfl (lv_at hl 2 rfl) ?_
    refine lv_goto (tgt := 83) C.1 C.2.1 dX6_apply_70 (by decide) ?_
    exact wGX6_apply_6_83 C hK hJ _ _ _ _ _ _ _ _ _ h hP hS (lv_sub hl [0, 1, 3, 4] rfl)
set_option maxHeartbeats 4000000 in
set_option maxRecDepth 100000 in
theorem wGX6_apply_6_52 {p : Program} {l : Launch} {e : Env} {s : State} {m : MethodId} {args : Array Value} {below : List Frame} {meth : Method} {c : Code} {D : va_G} {cy : Nat → ClassId} {ad st : Nat → Nat} (C : Cx RX6 cX6_apply 6 none wsX6_apply p s m args meth c) (hK : Ky D [(cy 0, .int), (cy 1, .long), (cy 2, .boolean), (cy 3, .byte), (cy 4, .object "HissHorn$Text")] st s) (hJ : JX ad st) {r : Int32} {u' : SX}   (z2 : Int32) (z3 : Int32) (z4 : Int32) (u : SX) (H : Heap) (locs : List Loc) (ls : Array Slot) (h : GX6_apply_6_52 z2 z3 z4 u = some (r, u')) (hP : va_P D vwCl (VX cy ad st u) H) (hS : va_S (Ax (AX ad) s.heap.size) s.heap H locs) (hl : lv_has ls 6 [(0, .ref (ad 6)), (2, .int z2), (3, .int z3), (4, .int z4)]) : W p l e rmX6_apply_6 s m args below meth c H locs 0 0 (MQ below (Qv D (VX cy ad st) (AX ad) s.heap.size r u') args s 0 0 (Ax (AX ad) s.heap.size)) (F0 m 52 ls []) := by
  unfold GX6_apply_6_52 at h
  refine lv_iconst (v := 1) C.1 C.2.1 dX6_apply_52 (by decide) ?_
  refine lv_goto (tgt := 57) C.1 C.2.1 dX6_apply_53 (by decide) ?_
  exact wGX6_apply_6_57 C hK hJ _ _ _ _ _ _ _ _ h hP hS hl
set_option maxHeartbeats 4000000 in
set_option maxRecDepth 100000 in
theorem wX6_apply_6 {p : Program} {l : Launch} {e : Env} {s : State} {m : MethodId} {args : Array Value} {below : List Frame} {meth : Method} {c : Code} {D : va_G} {cy : Nat → ClassId} {ad st : Nat → Nat} (C : Cx RX6 cX6_apply 6 none wsX6_apply p s m args meth c) (hK : Ky D [(cy 0, .int), (cy 1, .long), (cy 2, .boolean), (cy 3, .byte), (cy 4, .object "HissHorn$Text")] st s) (hJ : JX ad st) (x1 : Int32) {u : SX} {r : Int32} {u' : SX} {H : Heap} {locs : List Loc} {ls : Array Slot} (h : fX6_apply_6 x1 u = some (r, u')) (hP : va_P D vwCl (VX cy ad st u) H) (hS : va_S (Ax (AX ad) s.heap.size) s.heap H locs) (hl : lv_has ls 6 [(0, .ref (ad 6)), (1, .int x1)]) : W p l e rmX6_apply_6 s m args below meth c H locs 0 0 (MQ below (Qv D (VX cy ad st) (AX ad) s.heap.size r u') args s 0 0 (Ax (AX ad) s.heap.size)) (F0 m 0 ls []) := by
  unfold fX6_apply_6 at h
  refine lv_aload_n C.1 C.2.1 dX6_apply_0 rfl (lv_at hl 0 rfl) ?_
  refine gX_6_changePart C hX6_apply_6_X6 hK hP mX6_apply_6_1 dX6_apply_1 ?_
  refine lv_iload_n C.1 C.2.1 dX6_apply_4 rfl (lv_at hl 1 rfl) ?_
  obtain ⟨hg1, h⟩ := gd_some h
  refine lX_31 C hK hP hg1 dX6_apply_5 ?_
  refine lv_topi (fun v2 hv3 => ?_)
  replace h := lt_e hv3 h
  try dsimp only at h
  refine lv_istore_n (lv' := [(2, .int v2), (0, .ref (ad 6)), (1, .int x1)]) C.1 C.2.1 dX6_apply_6 rfl hl (by decide) rfl (fun ls hl => ?_)
  replace hl := lv_sub (l' := [(0, .ref (ad 6)), (1, .int x1), (2, .int v2)]) hl [1, 2, 0] rfl
  refine lv_aload_n C.1 C.2.1 dX6_apply_7 rfl (lv_at hl 0 rfl) ?_
  refine gX_6_changeFrom C hX6_apply_6_X6 hK hP mX6_apply_6_2 dX6_apply_8 ?_
  refine lv_iload_n C.1 C.2.1 dX6_apply_11 rfl (lv_at hl 1 rfl) ?_
  obtain ⟨hg4, h⟩ := gd_some h
  refine lX_32 C hK hP hg4 dX6_apply_12 ?_
  refine lv_topi (fun v5 hv6 => ?_)
  replace h := lt_e hv6 h
  try dsimp only at h
  refine lv_istore_n (lv' := [(3, .int v5), (0, .ref (ad 6)), (1, .int x1), (2, .int v2)]) C.1 C.2.1 dX6_apply_13 rfl hl (by decide) rfl (fun ls hl => ?_)
  replace hl := lv_sub (l' := [(0, .ref (ad 6)), (1, .int x1), (2, .int v2), (3, .int v5)]) hl [1, 2, 3, 0] rfl
  refine lv_aload_n C.1 C.2.1 dX6_apply_14 rfl (lv_at hl 0 rfl) ?_
  refine gX_6_changeTo C hX6_apply_6_X6 hK hP mX6_apply_6_3 dX6_apply_15 ?_
  refine lv_iload_n C.1 C.2.1 dX6_apply_18 rfl (lv_at hl 1 rfl) ?_
  obtain ⟨hg7, h⟩ := gd_some h
  refine lX_33 C hK hP hg7 dX6_apply_19 ?_
  refine lv_topi (fun v8 hv9 => ?_)
  replace h := lt_e hv9 h
  try dsimp only at h
  refine lv_istore (lv' := [(4, .int v8), (0, .ref (ad 6)), (1, .int x1), (2, .int v2), (3, .int v5)]) C.1 C.2.1 dX6_apply_20 hl (by decide) rfl (fun ls hl => ?_)
  replace hl := lv_sub (l' := [(0, .ref (ad 6)), (1, .int x1), (2, .int v2), (3, .int v5), (4, .int v8)]) hl [1, 2, 3, 4, 0] rfl
  refine lv_aload_n C.1 C.2.1 dX6_apply_22 rfl (lv_at hl 0 rfl) ?_
  refine gX_6_cleaned C hX6_apply_6_X6 hK hP mX6_apply_6_4 dX6_apply_23 ?_
  refine lv_iload_n C.1 C.2.1 dX6_apply_26 rfl (lv_at hl 1 rfl) ?_
  obtain ⟨hg10, h⟩ := gd_some h
  refine lX_35 C hK hP hg10 dX6_apply_27 ?_
  refine lv_if_ne (tgt := 52) C.1 C.2.1 dX6_apply_28 (by decide) (fun c28 => ?_) (fun c28 => ?_)
  · rw [if_neg c28] at h
    exact wGX6_apply_6_52 C hK hJ _ _ _ _ _ _ _ h hP hS (lv_sub hl [0, 2, 3, 4] rfl)
  · rw [if_pos c28] at h
    refine lv_aload_n C.1 C.2.1 dX6_apply_31 rfl (lv_at hl 0 rfl) ?_
    refine gX_6_low C hX6_apply_6_X6 hK hP mX6_apply_6_5 dX6_apply_32 ?_
    refine lv_iload_n C.1 C.2.1 dX6_apply_35 rfl (lv_at hl 2 rfl) ?_
    obtain ⟨hg22, h⟩ := gd_some h
    refine lX_27 C hK hP hg22 dX6_apply_36 ?_
    refine lv_aload_n C.1 C.2.1 dX6_apply_37 rfl (lv_at hl 0 rfl) ?_
    refine gX_6_high C hX6_apply_6_X6 hK hP mX6_apply_6_10 dX6_apply_38 ?_
    refine lv_iload_n C.1 C.2.1 dX6_apply_41 rfl (lv_at hl 2 rfl) ?_
    obtain ⟨hg23, h⟩ := gd_some h
    refine lX_28 C hK hP hg23 dX6_apply_42 ?_
    refine lv_iload_n C.1 C.2.1 dX6_apply_43 rfl (lv_at hl 3 rfl) ?_
    refine lv_iload C.1 C.2.1 dX6_apply_44 (lv_at hl 4 rfl) ?_
    obtain ⟨r24, hc26, h⟩ := bd_some h
    refine cs_i (As := [.int (u.2.1 27 v2.toNatClampNeg), .int (u.2.1 28 v2.toNatClampNeg), .int v5, .int v8]) (rest := []) (AX_ge hJ) C hK hP hS (metX6_apart l D cy st _ (u.2.1 27 v2.toNatClampNeg) (u.2.1 28 v2.toNatClampNeg) v5 v8 hc26) (va_cwS 4 C.2.2.2.2.2.1 gX6_apply_X6_apart rfl rfl rfl (by decide +kernel) ⟨(Nat.le_of_ble_eq_true rfl), (Nat.le_of_ble_eq_true rfl)⟩) rfl hl.1 rfl (Nat.le_of_ble_eq_true rfl) dX6_apply_46 ⟨Nat.zero_le _, Nat.zero_le _⟩ (fun H locs hP hS => ?_)
    refine lv_if_eq (tgt := 56) C.1 C.2.1 dX6_apply_49 (by decide) (fun c49 => ?_) (fun c49 => ?_)
    · rw [if_pos c49] at h
      refine lv_iconst (v := 0) C.1 C.2.1 dX6_apply_56 (by decide) ?_
      exact wGX6_apply_6_57 C hK hJ _ _ _ _ _ _ _ _ h hP hS (lv_sub hl [0, 2, 3, 4] rfl)
    · rw [if_neg c49] at h
      exact wGX6_apply_6_52 C hK hJ _ _ _ _ _ _ _ h hP hS (lv_sub hl [0, 2, 3, 4] rfl)
theorem metX6_apply_6 (l : Launch) (D : va_G) (cy : Nat → ClassId) (ad st : Nat → Nat) (hJ : JX ad st) (sz : Nat) (x1 : Int32) {u : SX} {r : Int32} {u' : SX} (h : fX6_apply_6 x1 u = some (r, u')) : Met l yX6_apply wsX6_apply rmX6_apply_6 (va_Pc [.ref (ad 6), .int x1] (Px D [(cy 0, .int), (cy 1, .long), (cy 2, .boolean), (cy 3, .byte), (cy 4, .object "HissHorn$Text")] st (VX cy ad st) sz u)) (Qv D (VX cy ad st) (AX ad) sz r u') 0 0 (Ax (AX ad) sz) := by
  refine Met.ofW (cc := cX6_apply) (maxL := 6) (ret := none) (by decide) rfl ?_
  intro p e s m args below meth c s₁ B hml hv
  obtain ⟨rfl, hsz, hP, hK⟩ := hv
  subst hsz
  have C : Cx RX6 cX6_apply 6 none wsX6_apply p s m _ meth c := ⟨B.exec, B.bytes, hml, B.returns, findClass_of_methodNamed B.named, atoms_spec (ws := wsX6_apply) B.pre, B.notSynchronized⟩
  have hl := lv_entry ([.ref (ad 6), .int x1]) (n := 6) (Nat.le_of_ble_eq_true rfl)
  rw [lg_entry_eq]
  exact wX6_apply_6 C hK hJ x1 h hP va_S.rf hl

theorem zdX6_recall_64 : (and (and (and (and (and (zk cX6_recall 64 (.iload 4) 2) (zk cX6_recall 66 (.aload_n 0) 1)) (and (zk cX6_recall 67 (.getfield 56) 3) (zk cX6_recall 70 (.if_icmp .ge 37) 3))) (and (and (zk cX6_recall 73 (.aload_n 0) 1) (zk cX6_recall 74 (.getfield 21) 3)) (and (zk cX6_recall 77 (.iload 4) 2) (zk cX6_recall 79 (.aload_n 0) 1)))) (and (and (and (zk cX6_recall 80 (.getfield 27) 3) (zk cX6_recall 83 (.iload 4) 2)) (and (zk cX6_recall 85 (.iaload) 1) (zk cX6_recall 86 (.iastore) 1))) (and (and (zk cX6_recall 87 (.aload_n 0) 1) (zk cX6_recall 88 (.getfield 24) 3)) (and (zk cX6_recall 91 (.iload 4) 2) (zk cX6_recall 93 (.aload_n 0) 1))))) (and (and (and (and (zk cX6_recall 94 (.getfield 30) 3) (zk cX6_recall 97 (.iload 4) 2)) (and (zk cX6_recall 99 (.iaload) 1) (zk cX6_recall 100 (.iastore) 1))) (and (and (zk cX6_recall 101 (.iinc 4 1) 3) (zk cX6_recall 104 (.goto (-40)) 3)) (and (zk cX6_recall 110 (.iload 4) 2) (zk cX6_recall 112 (.aload_n 0) 1)))) (and (and (and (zk cX6_recall 113 (.getfield 63) 3) (zk cX6_recall 116 (.if_icmp .ge 15) 3)) (and (zk cX6_recall 131 (.return_) 1) (zk cX6_recall 119 (.aload_n 0) 1))) (and (and (zk cX6_recall 120 (.iload 4) 2) (zk cX6_recall 122 (.invokevirtual 66) 3)) (and (zk cX6_recall 125 (.iinc 4 1) 3) (zk cX6_recall 128 (.goto (-18)) 3)))))) = true := by decide +kernel
theorem dX6_recall_64 : decode cX6_recall 64 = .ok (.iload 4, 2) := zk_of (zk_l (zk_l (zk_l (zk_l (zk_l zdX6_recall_64)))))
theorem dX6_recall_66 : decode cX6_recall 66 = .ok (.aload_n 0, 1) := zk_of (zk_r (zk_l (zk_l (zk_l (zk_l zdX6_recall_64)))))
theorem dX6_recall_67 : decode cX6_recall 67 = .ok (.getfield 56, 3) := zk_of (zk_l (zk_r (zk_l (zk_l (zk_l zdX6_recall_64)))))
theorem dX6_recall_70 : decode cX6_recall 70 = .ok (.if_icmp .ge 37, 3) := zk_of (zk_r (zk_r (zk_l (zk_l (zk_l zdX6_recall_64)))))
theorem dX6_recall_73 : decode cX6_recall 73 = .ok (.aload_n 0, 1) := zk_of (zk_l (zk_l (zk_r (zk_l (zk_l zdX6_recall_64)))))
theorem dX6_recall_74 : decode cX6_recall 74 = .ok (.getfield 21, 3) := zk_of (zk_r (zk_l (zk_r (zk_l (zk_l zdX6_recall_64)))))
theorem dX6_recall_77 : decode cX6_recall 77 = .ok (.iload 4, 2) := zk_of (zk_l (zk_r (zk_r (zk_l (zk_l zdX6_recall_64)))))
theorem dX6_recall_79 : decode cX6_recall 79 = .ok (.aload_n 0, 1) := zk_of (zk_r (zk_r (zk_r (zk_l (zk_l zdX6_recall_64)))))
theorem dX6_recall_80 : decode cX6_recall 80 = .ok (.getfield 27, 3) := zk_of (zk_l (zk_l (zk_l (zk_r (zk_l zdX6_recall_64)))))
theorem dX6_recall_83 : decode cX6_recall 83 = .ok (.iload 4, 2) := zk_of (zk_r (zk_l (zk_l (zk_r (zk_l zdX6_recall_64)))))
theorem dX6_recall_85 : decode cX6_recall 85 = .ok (.iaload, 1) := zk_of (zk_l (zk_r (zk_l (zk_r (zk_l zdX6_recall_64)))))
theorem dX6_recall_86 : decode cX6_recall 86 = .ok (.iastore, 1) := zk_of (zk_r (zk_r (zk_l (zk_r (zk_l zdX6_recall_64)))))
theorem dX6_recall_87 : decode cX6_recall 87 = .ok (.aload_n 0, 1) := zk_of (zk_l (zk_l (zk_r (zk_r (zk_l zdX6_recall_64)))))
theorem dX6_recall_88 : decode cX6_recall 88 = .ok (.getfield 24, 3) := zk_of (zk_r (zk_l (zk_r (zk_r (zk_l zdX6_recall_64)))))
theorem dX6_recall_91 : decode cX6_recall 91 = .ok (.iload 4, 2) := zk_of (zk_l (zk_r (zk_r (zk_r (zk_l zdX6_recall_64)))))
theorem dX6_recall_93 : decode cX6_recall 93 = .ok (.aload_n 0, 1) := zk_of (zk_r (zk_r (zk_r (zk_r (zk_l zdX6_recall_64)))))
theorem dX6_recall_94 : decode cX6_recall 94 = .ok (.getfield 30, 3) := zk_of (zk_l (zk_l (zk_l (zk_l (zk_r zdX6_recall_64)))))
theorem dX6_recall_97 : decode cX6_recall 97 = .ok (.iload 4, 2) := zk_of (zk_r (zk_l (zk_l (zk_l (zk_r zdX6_recall_64)))))
theorem dX6_recall_99 : decode cX6_recall 99 = .ok (.iaload, 1) := zk_of (zk_l (zk_r (zk_l (zk_l (zk_r zdX6_recall_64)))))
theorem dX6_recall_100 : decode cX6_recall 100 = .ok (.iastore, 1) := zk_of (zk_r (zk_r (zk_l (zk_l (zk_r zdX6_recall_64)))))
theorem dX6_recall_101 : decode cX6_recall 101 = .ok (.iinc 4 1, 3) := zk_of (zk_l (zk_l (zk_r (zk_l (zk_r zdX6_recall_64)))))
theorem dX6_recall_104 : decode cX6_recall 104 = .ok (.goto (-40), 3) := zk_of (zk_r (zk_l (zk_r (zk_l (zk_r zdX6_recall_64)))))
theorem dX6_recall_110 : decode cX6_recall 110 = .ok (.iload 4, 2) := zk_of (zk_l (zk_r (zk_r (zk_l (zk_r zdX6_recall_64)))))
theorem dX6_recall_112 : decode cX6_recall 112 = .ok (.aload_n 0, 1) := zk_of (zk_r (zk_r (zk_r (zk_l (zk_r zdX6_recall_64)))))
theorem dX6_recall_113 : decode cX6_recall 113 = .ok (.getfield 63, 3) := zk_of (zk_l (zk_l (zk_l (zk_r (zk_r zdX6_recall_64)))))
theorem dX6_recall_116 : decode cX6_recall 116 = .ok (.if_icmp .ge 15, 3) := zk_of (zk_r (zk_l (zk_l (zk_r (zk_r zdX6_recall_64)))))
theorem dX6_recall_131 : decode cX6_recall 131 = .ok (.return_, 1) := zk_of (zk_l (zk_r (zk_l (zk_r (zk_r zdX6_recall_64)))))
theorem dX6_recall_119 : decode cX6_recall 119 = .ok (.aload_n 0, 1) := zk_of (zk_r (zk_r (zk_l (zk_r (zk_r zdX6_recall_64)))))
theorem dX6_recall_120 : decode cX6_recall 120 = .ok (.iload 4, 2) := zk_of (zk_l (zk_l (zk_r (zk_r (zk_r zdX6_recall_64)))))
theorem dX6_recall_122 : decode cX6_recall 122 = .ok (.invokevirtual 66, 3) := zk_of (zk_r (zk_l (zk_r (zk_r (zk_r zdX6_recall_64)))))
theorem dX6_recall_125 : decode cX6_recall 125 = .ok (.iinc 4 1, 3) := zk_of (zk_l (zk_r (zk_r (zk_r (zk_r zdX6_recall_64)))))
theorem dX6_recall_128 : decode cX6_recall 128 = .ok (.goto (-18), 3) := zk_of (zk_r (zk_r (zk_r (zk_r (zk_r zdX6_recall_64)))))
set_option maxRecDepth 20000 in
theorem ggX6_recall_X6_apply : GoodIn wsX6_recall wsX6_apply := ggi (fun w h => List.mem_cons_of_mem _ (List.mem_append_left _ (List.mem_append_right _ (List.mem_append_left _ h)))) gs_X6_apply
set_option maxRecDepth 20000 in
theorem gX6_recall_X6_apply : GoodIn wsX6_recall (wsV RX6 66 RX6 yX6_apply wsX6_apply) := goodIn_app (goodIn_of _ (by decide +kernel)) ggX6_recall_X6_apply
theorem zdX6_recall_107 : (and (and (and (and (and (zk cX6_recall 107 (.iconst 0) 1) (zk cX6_recall 108 (.istore 4) 2)) (and (zk cX6_recall 51 (.aload_n 0) 1) (zk cX6_recall 52 (.iload_n 2) 1))) (and (and (zk cX6_recall 53 (.putfield 56) 3) (zk cX6_recall 56 (.aload_n 0) 1)) (and (zk cX6_recall 57 (.iload_n 3) 1) (zk cX6_recall 58 (.putfield 63) 3)))) (and (and (and (zk cX6_recall 61 (.iconst 0) 1) (zk cX6_recall 62 (.istore 4) 2)) (and (zk cX6_recall 0 (.iload_n 1) 1) (zk cX6_recall 1 (.aload_n 0) 1))) (and (and (zk cX6_recall 2 (.getfield 15) 3) (zk cX6_recall 5 (.aload_n 0) 1)) (and (zk cX6_recall 6 (.getfield 49) 3) (zk cX6_recall 9 (.aload_n 0) 1))))) (and (and (and (and (zk cX6_recall 10 (.getfield 56) 3) (zk cX6_recall 13 (.invokestatic 59) 3)) (and (zk cX6_recall 16 (.istore_n 2) 1) (zk cX6_recall 17 (.iload_n 1) 1))) (and (and (zk cX6_recall 18 (.aload_n 0) 1) (zk cX6_recall 19 (.getfield 42) 3)) (and (zk cX6_recall 22 (.aload_n 0) 1) (zk cX6_recall 23 (.getfield 53) 3)))) (and (and (and (zk cX6_recall 26 (.aload_n 0) 1) (zk cX6_recall 27 (.getfield 63) 3)) (and (zk cX6_recall 30 (.invokestatic 59) 3) (zk cX6_recall 33 (.istore_n 3) 1))) (and (and (zk cX6_recall 34 (.iload_n 2) 1) (zk cX6_recall 35 (.aload_n 0) 1)) (and (zk cX6_recall 36 (.getfield 56) 3) (zk cX6_recall 39 (.if_icmp .ne 12) 3)))))) = true := by decide +kernel
theorem dX6_recall_107 : decode cX6_recall 107 = .ok (.iconst 0, 1) := zk_of (zk_l (zk_l (zk_l (zk_l (zk_l zdX6_recall_107)))))
theorem dX6_recall_108 : decode cX6_recall 108 = .ok (.istore 4, 2) := zk_of (zk_r (zk_l (zk_l (zk_l (zk_l zdX6_recall_107)))))
theorem dX6_recall_51 : decode cX6_recall 51 = .ok (.aload_n 0, 1) := zk_of (zk_l (zk_r (zk_l (zk_l (zk_l zdX6_recall_107)))))
theorem dX6_recall_52 : decode cX6_recall 52 = .ok (.iload_n 2, 1) := zk_of (zk_r (zk_r (zk_l (zk_l (zk_l zdX6_recall_107)))))
theorem dX6_recall_53 : decode cX6_recall 53 = .ok (.putfield 56, 3) := zk_of (zk_l (zk_l (zk_r (zk_l (zk_l zdX6_recall_107)))))
theorem dX6_recall_56 : decode cX6_recall 56 = .ok (.aload_n 0, 1) := zk_of (zk_r (zk_l (zk_r (zk_l (zk_l zdX6_recall_107)))))
theorem dX6_recall_57 : decode cX6_recall 57 = .ok (.iload_n 3, 1) := zk_of (zk_l (zk_r (zk_r (zk_l (zk_l zdX6_recall_107)))))
theorem dX6_recall_58 : decode cX6_recall 58 = .ok (.putfield 63, 3) := zk_of (zk_r (zk_r (zk_r (zk_l (zk_l zdX6_recall_107)))))
theorem dX6_recall_61 : decode cX6_recall 61 = .ok (.iconst 0, 1) := zk_of (zk_l (zk_l (zk_l (zk_r (zk_l zdX6_recall_107)))))
theorem dX6_recall_62 : decode cX6_recall 62 = .ok (.istore 4, 2) := zk_of (zk_r (zk_l (zk_l (zk_r (zk_l zdX6_recall_107)))))
theorem dX6_recall_0 : decode cX6_recall 0 = .ok (.iload_n 1, 1) := zk_of (zk_l (zk_r (zk_l (zk_r (zk_l zdX6_recall_107)))))
theorem dX6_recall_1 : decode cX6_recall 1 = .ok (.aload_n 0, 1) := zk_of (zk_r (zk_r (zk_l (zk_r (zk_l zdX6_recall_107)))))
theorem dX6_recall_2 : decode cX6_recall 2 = .ok (.getfield 15, 3) := zk_of (zk_l (zk_l (zk_r (zk_r (zk_l zdX6_recall_107)))))
theorem dX6_recall_5 : decode cX6_recall 5 = .ok (.aload_n 0, 1) := zk_of (zk_r (zk_l (zk_r (zk_r (zk_l zdX6_recall_107)))))
theorem dX6_recall_6 : decode cX6_recall 6 = .ok (.getfield 49, 3) := zk_of (zk_l (zk_r (zk_r (zk_r (zk_l zdX6_recall_107)))))
theorem dX6_recall_9 : decode cX6_recall 9 = .ok (.aload_n 0, 1) := zk_of (zk_r (zk_r (zk_r (zk_r (zk_l zdX6_recall_107)))))
theorem dX6_recall_10 : decode cX6_recall 10 = .ok (.getfield 56, 3) := zk_of (zk_l (zk_l (zk_l (zk_l (zk_r zdX6_recall_107)))))
theorem dX6_recall_13 : decode cX6_recall 13 = .ok (.invokestatic 59, 3) := zk_of (zk_r (zk_l (zk_l (zk_l (zk_r zdX6_recall_107)))))
theorem dX6_recall_16 : decode cX6_recall 16 = .ok (.istore_n 2, 1) := zk_of (zk_l (zk_r (zk_l (zk_l (zk_r zdX6_recall_107)))))
theorem dX6_recall_17 : decode cX6_recall 17 = .ok (.iload_n 1, 1) := zk_of (zk_r (zk_r (zk_l (zk_l (zk_r zdX6_recall_107)))))
theorem dX6_recall_18 : decode cX6_recall 18 = .ok (.aload_n 0, 1) := zk_of (zk_l (zk_l (zk_r (zk_l (zk_r zdX6_recall_107)))))
theorem dX6_recall_19 : decode cX6_recall 19 = .ok (.getfield 42, 3) := zk_of (zk_r (zk_l (zk_r (zk_l (zk_r zdX6_recall_107)))))
theorem dX6_recall_22 : decode cX6_recall 22 = .ok (.aload_n 0, 1) := zk_of (zk_l (zk_r (zk_r (zk_l (zk_r zdX6_recall_107)))))
theorem dX6_recall_23 : decode cX6_recall 23 = .ok (.getfield 53, 3) := zk_of (zk_r (zk_r (zk_r (zk_l (zk_r zdX6_recall_107)))))
theorem dX6_recall_26 : decode cX6_recall 26 = .ok (.aload_n 0, 1) := zk_of (zk_l (zk_l (zk_l (zk_r (zk_r zdX6_recall_107)))))
theorem dX6_recall_27 : decode cX6_recall 27 = .ok (.getfield 63, 3) := zk_of (zk_r (zk_l (zk_l (zk_r (zk_r zdX6_recall_107)))))
theorem dX6_recall_30 : decode cX6_recall 30 = .ok (.invokestatic 59, 3) := zk_of (zk_l (zk_r (zk_l (zk_r (zk_r zdX6_recall_107)))))
theorem dX6_recall_33 : decode cX6_recall 33 = .ok (.istore_n 3, 1) := zk_of (zk_r (zk_r (zk_l (zk_r (zk_r zdX6_recall_107)))))
theorem dX6_recall_34 : decode cX6_recall 34 = .ok (.iload_n 2, 1) := zk_of (zk_l (zk_l (zk_r (zk_r (zk_r zdX6_recall_107)))))
theorem dX6_recall_35 : decode cX6_recall 35 = .ok (.aload_n 0, 1) := zk_of (zk_r (zk_l (zk_r (zk_r (zk_r zdX6_recall_107)))))
theorem dX6_recall_36 : decode cX6_recall 36 = .ok (.getfield 56, 3) := zk_of (zk_l (zk_r (zk_r (zk_r (zk_r zdX6_recall_107)))))
theorem dX6_recall_39 : decode cX6_recall 39 = .ok (.if_icmp .ne 12, 3) := zk_of (zk_r (zk_r (zk_r (zk_r (zk_r zdX6_recall_107)))))
set_option maxRecDepth 20000 in
theorem ggX6_recall_X11_rowsUpTo : GoodIn wsX6_recall wsX11_rowsUpTo := ggi (fun w h => List.mem_cons_of_mem _ (List.mem_append_left _ (List.mem_append_right _ (List.mem_append_right _ h)))) gs_X11_rowsUpTo
set_option maxRecDepth 20000 in
theorem gX6_recall_X11_rowsUpTo_n59 : GoodIn wsX6_recall (wsX11_rowsUpTo) := ggX6_recall_X11_rowsUpTo
theorem zdX6_recall_42 : (and (and (and (zk cX6_recall 42 (.iload_n 3) 1) (zk cX6_recall 43 (.aload_n 0) 1)) (zk cX6_recall 44 (.getfield 63) 3)) (and (zk cX6_recall 47 (.if_icmp .ne 4) 3) (zk cX6_recall 50 (.return_) 1))) = true := by decide +kernel
theorem dX6_recall_42 : decode cX6_recall 42 = .ok (.iload_n 3, 1) := zk_of (zk_l (zk_l (zk_l zdX6_recall_42)))
theorem dX6_recall_43 : decode cX6_recall 43 = .ok (.aload_n 0, 1) := zk_of (zk_r (zk_l (zk_l zdX6_recall_42)))
theorem dX6_recall_44 : decode cX6_recall 44 = .ok (.getfield 63, 3) := zk_of (zk_r (zk_l zdX6_recall_42))
theorem dX6_recall_47 : decode cX6_recall 47 = .ok (.if_icmp .ne 4, 3) := zk_of (zk_l (zk_r zdX6_recall_42))
theorem dX6_recall_50 : decode cX6_recall 50 = .ok (.return_, 1) := zk_of (zk_r (zk_r zdX6_recall_42))
/-- HissHorn$Parts.recall(I)V of cell 6 -/
def rmX6_recall_6 : Room := { frames := 2, cells := 0, slots := 0, locals := 48 }
theorem hX6_recall_6_X6 : ∀ w ∈ u_ws RX6 TX6 17, w ∈ wsX6_recall := fun w h => (List.mem_cons_of_mem _ (List.mem_append_right _ h))
theorem mX6_recall_6_1 : Cond.fieldLink RX6 15 "HissHorn$Parts" "day" "[I" ∈ wsX6_recall := (List.mem_cons_of_mem _ (List.mem_append_left _ (List.mem_append_left _ (List.mem_of_getElem? (i := 4) rfl))))
theorem mX6_recall_6_2 : Cond.fieldLink RX6 49 "HissHorn$Parts" "size" "I" ∈ wsX6_recall := (List.mem_cons_of_mem _ (List.mem_append_left _ (List.mem_append_left _ (List.mem_of_getElem? (i := 5) rfl))))
theorem mX6_recall_6_3 : Cond.fieldLink RX6 56 "HissHorn$Parts" "known" "I" ∈ wsX6_recall := (List.mem_cons_of_mem _ (List.mem_append_left _ (List.mem_append_left _ (List.mem_of_getElem? (i := 6) rfl))))
theorem mX6_recall_6_4 : Cond.initialized RX11 ∈ wsX6_recall := (List.mem_cons_of_mem _ (List.mem_append_left _ (List.mem_append_left _ (List.mem_of_getElem? (i := 7) rfl))))
theorem mX6_recall_6_5 : Cond.static yX11_rowsUpTo ∈ wsX6_recall := (List.mem_cons_of_mem _ (List.mem_append_left _ (List.mem_append_left _ (List.mem_of_getElem? (i := 8) rfl))))
theorem mX6_recall_6_6 : Cond.fieldLink RX6 42 "HissHorn$Parts" "changeDay" "[I" ∈ wsX6_recall := (List.mem_cons_of_mem _ (List.mem_append_left _ (List.mem_append_left _ (List.mem_of_getElem? (i := 9) rfl))))
theorem mX6_recall_6_7 : Cond.fieldLink RX6 53 "HissHorn$Parts" "changes" "I" ∈ wsX6_recall := (List.mem_cons_of_mem _ (List.mem_append_left _ (List.mem_append_left _ (List.mem_of_getElem? (i := 10) rfl))))
theorem mX6_recall_6_8 : Cond.fieldLink RX6 63 "HissHorn$Parts" "applied" "I" ∈ wsX6_recall := (List.mem_cons_of_mem _ (List.mem_append_left _ (List.mem_append_left _ (List.mem_of_getElem? (i := 11) rfl))))
theorem mX6_recall_6_9 : Cond.fieldLink RX6 21 "HissHorn$Parts" "low" "[I" ∈ wsX6_recall := (List.mem_cons_of_mem _ (List.mem_append_left _ (List.mem_append_left _ (List.mem_of_getElem? (i := 12) rfl))))
theorem mX6_recall_6_10 : Cond.fieldLink RX6 27 "HissHorn$Parts" "toldFrom" "[I" ∈ wsX6_recall := (List.mem_cons_of_mem _ (List.mem_append_left _ (List.mem_append_left _ (List.mem_of_getElem? (i := 13) rfl))))
theorem mX6_recall_6_11 : Cond.fieldLink RX6 24 "HissHorn$Parts" "high" "[I" ∈ wsX6_recall := (List.mem_cons_of_mem _ (List.mem_append_left _ (List.mem_append_left _ (List.mem_of_getElem? (i := 14) rfl))))
theorem mX6_recall_6_12 : Cond.fieldLink RX6 30 "HissHorn$Parts" "toldTo" "[I" ∈ wsX6_recall := (List.mem_cons_of_mem _ (List.mem_append_left _ (List.mem_append_left _ (List.mem_of_getElem? (i := 15) rfl))))
def LX6_recall_6_64 (k107 : SX → Option (Int32 × SX)) : Nat → Int32 → SX → Option (Int32 × SX)
  | 0, _, _ => none
  | n + 1, z4, u => (if (u.1 10) ≤ z4 then (k107 u) else (gd (inb z4 12) (gd (inb z4 12) (lt (sA u 27 (upd (u.2.1 27) z4.toNatClampNeg (u.2.1 29 z4.toNatClampNeg))) fun u13 => (gd (inb z4 12) (gd (inb z4 12) (lt (sA u13 28 (upd (u13.2.1 28) z4.toNatClampNeg (u13.2.1 30 z4.toNatClampNeg))) fun u17 => ((LX6_recall_6_64 k107 n) (z4 + 1) u17))))))))
def LX6_recall_6_110  : Nat → Int32 → SX → Option (Int32 × SX)
  | 0, _, _ => none
  | n + 1, z4, u => (if (u.1 11) ≤ z4 then (some (0, u)) else ((fX6_apply_6 z4 u).bind fun q => match q with | (r19, u20) => ((LX6_recall_6_110 n) (z4 + 1) u20)))
def GX6_recall_6_107  (u : SX) : Option (Int32 × SX) := (LX6_recall_6_110  5000 0 u)
def GX6_recall_6_51 (z2 : Int32) (z3 : Int32) (u : SX) : Option (Int32 × SX) := (lt (sI u 10 z2) fun u7 => (lt (sI u7 11 z3) fun u9 => (LX6_recall_6_64 GX6_recall_6_107 5000 0 u9)))
def fX6_recall_6 (x1 : Int32) (u : SX) : Option (Int32 × SX) := ((fX11_rowsUpTo_a25 x1 (u.1 8) (u.1 10) u).bind fun q => match q with | (r1, u2) => ((fX11_rowsUpTo_a34 x1 (u2.1 12) (u2.1 11) u2).bind fun q => match q with | (r4, u5) => (if r1 = (u5.1 10) then (if r4 = (u5.1 11) then (some (0, u5)) else (GX6_recall_6_51 r1 r4 u5)) else (GX6_recall_6_51 r1 r4 u5))))
set_option maxHeartbeats 4000000 in
set_option maxRecDepth 100000 in
theorem wLX6_recall_6_64 {p : Program} {l : Launch} {e : Env} {s : State} {m : MethodId} {args : Array Value} {below : List Frame} {meth : Method} {c : Code} {D : va_G} {cy : Nat → ClassId} {ad st : Nat → Nat} (C : Cx RX6 cX6_recall 5 none wsX6_recall p s m args meth c) (hK : Ky D [(cy 0, .int), (cy 1, .long), (cy 2, .boolean), (cy 3, .byte), (cy 4, .object "HissHorn$Text")] st s) (hJ : JX ad st) {r : Int32} {u' : SX} {k107 : SX → Option (Int32 × SX)} (hk107 : ∀  (u : SX) (H : Heap) (locs : List Loc) (ls : Array Slot), k107 u = some (r, u') → va_P D vwCl (VX cy ad st u) H → va_S (Ax (AX ad) s.heap.size) s.heap H locs → lv_has ls 5 [(0, .ref (ad 6))] → W p l e rmX6_recall_6 s m args below meth c H locs 0 0 (MQ below (Qv D (VX cy ad st) (AX ad) s.heap.size r u') args s 0 0 (Ax (AX ad) s.heap.size)) (F0 m 107 ls [])) : ∀ (n : Nat) (z4 : Int32) (u : SX) (H : Heap) (locs : List Loc) (ls : Array Slot), LX6_recall_6_64 k107 n z4 u = some (r, u') → va_P D vwCl (VX cy ad st u) H → va_S (Ax (AX ad) s.heap.size) s.heap H locs → lv_has ls 5 [(0, .ref (ad 6)), (4, .int z4)] → W p l e rmX6_recall_6 s m args below meth c H locs 0 0 (MQ below (Qv D (VX cy ad st) (AX ad) s.heap.size r u') args s 0 0 (Ax (AX ad) s.heap.size)) (F0 m 64 ls []) := by
  intro n
  induction n with
  | zero =>
    intro z4 u H locs ls h
    exact absurd h (by intro q; cases q)
  | succ n ih =>
    intro z4 u H locs ls h hP hS hl
    rw [LX6_recall_6_64] at h
    refine lv_iload C.1 C.2.1 dX6_recall_64 (lv_at hl 1 rfl) ?_
    refine lv_aload_n C.1 C.2.1 dX6_recall_66 rfl (lv_at hl 0 rfl) ?_
    refine gX_6_known C hX6_recall_6_X6 hK hP mX6_recall_6_3 dX6_recall_67 ?_
    refine lv_icmp_ge (tgt := 107) C.1 C.2.1 dX6_recall_70 (by decide) (fun c70 => ?_) (fun c70 => ?_)
    · rw [if_pos c70] at h
      exact hk107 _ _ _ _ h hP hS (lv_sub hl [0] rfl)
    · rw [if_neg c70] at h
      refine lv_aload_n C.1 C.2.1 dX6_recall_73 rfl (lv_at hl 0 rfl) ?_
      refine gX_6_low C hX6_recall_6_X6 hK hP mX6_recall_6_9 dX6_recall_74 ?_
      refine lv_iload C.1 C.2.1 dX6_recall_77 (lv_at hl 1 rfl) ?_
      refine lv_aload_n C.1 C.2.1 dX6_recall_79 rfl (lv_at hl 0 rfl) ?_
      refine gX_6_toldFrom C hX6_recall_6_X6 hK hP mX6_recall_6_10 dX6_recall_80 ?_
      refine lv_iload C.1 C.2.1 dX6_recall_83 (lv_at hl 1 rfl) ?_
      obtain ⟨hg11, h⟩ := gd_some h
      refine lX_29 C hK hP hg11 dX6_recall_85 ?_
      obtain ⟨hg12, h⟩ := gd_some h
      refine tX_27 C hK hP hJ hS hg12 dX6_recall_86 (fun H locs hP hS => ?_)
      obtain ⟨u13, hu14, h⟩ := lt_some h
      rw [← hu14] at hP
      refine lv_aload_n C.1 C.2.1 dX6_recall_87 rfl (lv_at hl 0 rfl) ?_
      refine gX_6_high C hX6_recall_6_X6 hK hP mX6_recall_6_11 dX6_recall_88 ?_
      refine lv_iload C.1 C.2.1 dX6_recall_91 (lv_at hl 1 rfl) ?_
      refine lv_aload_n C.1 C.2.1 dX6_recall_93 rfl (lv_at hl 0 rfl) ?_
      refine gX_6_toldTo C hX6_recall_6_X6 hK hP mX6_recall_6_12 dX6_recall_94 ?_
      refine lv_iload C.1 C.2.1 dX6_recall_97 (lv_at hl 1 rfl) ?_
      obtain ⟨hg15, h⟩ := gd_some h
      refine lX_30 C hK hP hg15 dX6_recall_99 ?_
      obtain ⟨hg16, h⟩ := gd_some h
      refine tX_28 C hK hP hJ hS hg16 dX6_recall_100 (fun H locs hP hS => ?_)
      obtain ⟨u17, hu18, h⟩ := lt_some h
      rw [← hu18] at hP
      refine lv_iinc (v := z4 + 1) (lv' := [(4, .int (z4 + 1)), (0, .ref (ad 6))]) C.1 C.2.1 dX6_recall_101 hl (k := 1) rfl rfl (by decide) rfl (fun ls hl => ?_)
      replace hl := lv_sub (l' := [(0, .ref (ad 6)), (4, .int (z4 + 1))]) hl [1, 0] rfl
      refine lv_goto (tgt := 64) C.1 C.2.1 dX6_recall_104 (by decide) ?_
      exact ih _ _ _ _ _ h hP hS hl
set_option maxHeartbeats 4000000 in
set_option maxRecDepth 100000 in
theorem wLX6_recall_6_110 {p : Program} {l : Launch} {e : Env} {s : State} {m : MethodId} {args : Array Value} {below : List Frame} {meth : Method} {c : Code} {D : va_G} {cy : Nat → ClassId} {ad st : Nat → Nat} (C : Cx RX6 cX6_recall 5 none wsX6_recall p s m args meth c) (hK : Ky D [(cy 0, .int), (cy 1, .long), (cy 2, .boolean), (cy 3, .byte), (cy 4, .object "HissHorn$Text")] st s) (hJ : JX ad st) {r : Int32} {u' : SX}   : ∀ (n : Nat) (z4 : Int32) (u : SX) (H : Heap) (locs : List Loc) (ls : Array Slot), LX6_recall_6_110  n z4 u = some (r, u') → va_P D vwCl (VX cy ad st u) H → va_S (Ax (AX ad) s.heap.size) s.heap H locs → lv_has ls 5 [(0, .ref (ad 6)), (4, .int z4)] → W p l e rmX6_recall_6 s m args below meth c H locs 0 0 (MQ below (Qv D (VX cy ad st) (AX ad) s.heap.size r u') args s 0 0 (Ax (AX ad) s.heap.size)) (F0 m 110 ls []) := by
  intro n
  induction n with
  | zero =>
    intro z4 u H locs ls h
    exact absurd h (by intro q; cases q)
  | succ n ih =>
    intro z4 u H locs ls h hP hS hl
    rw [LX6_recall_6_110] at h
    refine lv_iload C.1 C.2.1 dX6_recall_110 (lv_at hl 1 rfl) ?_
    refine lv_aload_n C.1 C.2.1 dX6_recall_112 rfl (lv_at hl 0 rfl) ?_
    refine gX_6_applied C hX6_recall_6_X6 hK hP mX6_recall_6_8 dX6_recall_113 ?_
    refine lv_icmp_ge (tgt := 131) C.1 C.2.1 dX6_recall_116 (by decide) (fun c116 => ?_) (fun c116 => ?_)
    · rw [if_pos c116] at h
      cases h
      exact rt_v C hP hS dX6_recall_131
    · rw [if_neg c116] at h
      refine lv_aload_n C.1 C.2.1 dX6_recall_119 rfl (lv_at hl 0 rfl) ?_
      refine lv_iload C.1 C.2.1 dX6_recall_120 (lv_at hl 1 rfl) ?_
      obtain ⟨⟨r19, u20⟩, hc21, h⟩ := bd_some h
      try dsimp only at h
      refine cg_v (As := [.int z4]) (rest := []) (AX_ge hJ) C hK hP hS (metX6_apply_6 l D cy ad st hJ _ z4 hc21) (cwV 1 C.2.2.2.2.2.1 gX6_recall_X6_apply rfl rfl rfl (by decide +kernel) ⟨(Nat.le_of_ble_eq_true rfl), (Nat.le_of_ble_eq_true rfl)⟩) 6 6 rfl rfl rfl hl.1 rfl (Nat.le_of_ble_eq_true rfl) dX6_recall_122 ⟨Nat.zero_le _, Nat.zero_le _⟩ (fun H locs hP hS => ?_)
      refine lv_iinc (v := z4 + 1) (lv' := [(4, .int (z4 + 1)), (0, .ref (ad 6))]) C.1 C.2.1 dX6_recall_125 hl (k := 1) rfl rfl (by decide) rfl (fun ls hl => ?_)
      replace hl := lv_sub (l' := [(0, .ref (ad 6)), (4, .int (z4 + 1))]) hl [1, 0] rfl
      refine lv_goto (tgt := 110) C.1 C.2.1 dX6_recall_128 (by decide) ?_
      exact ih _ _ _ _ _ h hP hS hl
set_option maxHeartbeats 4000000 in
set_option maxRecDepth 100000 in
theorem wGX6_recall_6_107 {p : Program} {l : Launch} {e : Env} {s : State} {m : MethodId} {args : Array Value} {below : List Frame} {meth : Method} {c : Code} {D : va_G} {cy : Nat → ClassId} {ad st : Nat → Nat} (C : Cx RX6 cX6_recall 5 none wsX6_recall p s m args meth c) (hK : Ky D [(cy 0, .int), (cy 1, .long), (cy 2, .boolean), (cy 3, .byte), (cy 4, .object "HissHorn$Text")] st s) (hJ : JX ad st) {r : Int32} {u' : SX}   (u : SX) (H : Heap) (locs : List Loc) (ls : Array Slot) (h : GX6_recall_6_107  u = some (r, u')) (hP : va_P D vwCl (VX cy ad st u) H) (hS : va_S (Ax (AX ad) s.heap.size) s.heap H locs) (hl : lv_has ls 5 [(0, .ref (ad 6))]) : W p l e rmX6_recall_6 s m args below meth c H locs 0 0 (MQ below (Qv D (VX cy ad st) (AX ad) s.heap.size r u') args s 0 0 (Ax (AX ad) s.heap.size)) (F0 m 107 ls []) := by
  unfold GX6_recall_6_107 at h
  refine lv_iconst (v := 0) C.1 C.2.1 dX6_recall_107 (by decide) ?_
  refine lv_istore (lv' := [(4, .int 0), (0, .ref (ad 6))]) C.1 C.2.1 dX6_recall_108 hl (by decide) rfl (fun ls hl => ?_)
  replace hl := lv_sub (l' := [(0, .ref (ad 6)), (4, .int 0)]) hl [1, 0] rfl
  exact wLX6_recall_6_110 C hK hJ  5000 _ _ _ _ _ h hP hS hl
set_option maxHeartbeats 4000000 in
set_option maxRecDepth 100000 in
theorem wGX6_recall_6_51 {p : Program} {l : Launch} {e : Env} {s : State} {m : MethodId} {args : Array Value} {below : List Frame} {meth : Method} {c : Code} {D : va_G} {cy : Nat → ClassId} {ad st : Nat → Nat} (C : Cx RX6 cX6_recall 5 none wsX6_recall p s m args meth c) (hK : Ky D [(cy 0, .int), (cy 1, .long), (cy 2, .boolean), (cy 3, .byte), (cy 4, .object "HissHorn$Text")] st s) (hJ : JX ad st) {r : Int32} {u' : SX}   (z2 : Int32) (z3 : Int32) (u : SX) (H : Heap) (locs : List Loc) (ls : Array Slot) (h : GX6_recall_6_51 z2 z3 u = some (r, u')) (hP : va_P D vwCl (VX cy ad st u) H) (hS : va_S (Ax (AX ad) s.heap.size) s.heap H locs) (hl : lv_has ls 5 [(0, .ref (ad 6)), (2, .int z2), (3, .int z3)]) : W p l e rmX6_recall_6 s m args below meth c H locs 0 0 (MQ below (Qv D (VX cy ad st) (AX ad) s.heap.size r u') args s 0 0 (Ax (AX ad) s.heap.size)) (F0 m 51 ls []) := by
  unfold GX6_recall_6_51 at h
  refine lv_aload_n C.1 C.2.1 dX6_recall_51 rfl (lv_at hl 0 rfl) ?_
  refine lv_iload_n C.1 C.2.1 dX6_recall_52 rfl (lv_at hl 1 rfl) ?_
  refine pX_6_known C hX6_recall_6_X6 hK hP hJ hS mX6_recall_6_3 dX6_recall_53 (fun H locs hP hS => ?_)
  obtain ⟨u7, hu8, h⟩ := lt_some h
  rw [← hu8] at hP
  refine lv_aload_n C.1 C.2.1 dX6_recall_56 rfl (lv_at hl 0 rfl) ?_
  refine lv_iload_n C.1 C.2.1 dX6_recall_57 rfl (lv_at hl 2 rfl) ?_
  refine pX_6_applied C hX6_recall_6_X6 hK hP hJ hS mX6_recall_6_8 dX6_recall_58 (fun H locs hP hS => ?_)
  obtain ⟨u9, hu10, h⟩ := lt_some h
  rw [← hu10] at hP
  refine lv_iconst (v := 0) C.1 C.2.1 dX6_recall_61 (by decide) ?_
  refine lv_istore (lv' := [(4, .int 0), (0, .ref (ad 6)), (2, .int z2), (3, .int z3)]) C.1 C.2.1 dX6_recall_62 hl (by decide) rfl (fun ls hl => ?_)
  replace hl := lv_sub (l' := [(0, .ref (ad 6)), (2, .int z2), (3, .int z3), (4, .int 0)]) hl [1, 2, 3, 0] rfl
  exact wLX6_recall_6_64 C hK hJ (wGX6_recall_6_107 C hK hJ ) 5000 _ _ _ _ _ h hP hS (lv_sub hl [0, 3] rfl)
set_option maxHeartbeats 4000000 in
set_option maxRecDepth 100000 in
theorem wX6_recall_6 {p : Program} {l : Launch} {e : Env} {s : State} {m : MethodId} {args : Array Value} {below : List Frame} {meth : Method} {c : Code} {D : va_G} {cy : Nat → ClassId} {ad st : Nat → Nat} (C : Cx RX6 cX6_recall 5 none wsX6_recall p s m args meth c) (hK : Ky D [(cy 0, .int), (cy 1, .long), (cy 2, .boolean), (cy 3, .byte), (cy 4, .object "HissHorn$Text")] st s) (hJ : JX ad st) (x1 : Int32) {u : SX} {r : Int32} {u' : SX} {H : Heap} {locs : List Loc} {ls : Array Slot} (h : fX6_recall_6 x1 u = some (r, u')) (hP : va_P D vwCl (VX cy ad st u) H) (hS : va_S (Ax (AX ad) s.heap.size) s.heap H locs) (hl : lv_has ls 5 [(0, .ref (ad 6)), (1, .int x1)]) : W p l e rmX6_recall_6 s m args below meth c H locs 0 0 (MQ below (Qv D (VX cy ad st) (AX ad) s.heap.size r u') args s 0 0 (Ax (AX ad) s.heap.size)) (F0 m 0 ls []) := by
  unfold fX6_recall_6 at h
  refine lv_iload_n C.1 C.2.1 dX6_recall_0 rfl (lv_at hl 1 rfl) ?_
  refine lv_aload_n C.1 C.2.1 dX6_recall_1 rfl (lv_at hl 0 rfl) ?_
  refine gX_6_day C hX6_recall_6_X6 hK hP mX6_recall_6_1 dX6_recall_2 ?_
  refine lv_aload_n C.1 C.2.1 dX6_recall_5 rfl (lv_at hl 0 rfl) ?_
  refine gX_6_size C hX6_recall_6_X6 hK hP mX6_recall_6_2 dX6_recall_6 ?_
  refine lv_aload_n C.1 C.2.1 dX6_recall_9 rfl (lv_at hl 0 rfl) ?_
  refine gX_6_known C hX6_recall_6_X6 hK hP mX6_recall_6_3 dX6_recall_10 ?_
  obtain ⟨⟨r1, u2⟩, hc3, h⟩ := bd_some h
  try dsimp only at h
  refine ctn_i (As := [.int x1, .ref (ad 25), .int (u.1 8), .int (u.1 10)]) (rest := []) (AX_ge hJ) C hK hP hS (metX11_rowsUpTo_a25 l D cy ad st hJ _ x1 (u.1 8) (u.1 10) hc3) ⟨va_cnB 4 C.2.2.2.2.2.1 gX6_recall_X11_rowsUpTo_n59 rfl rfl rfl (hK.2.1 (RX6, 59, yX11_rowsUpTo) (by decide +kernel)) (C.2.2.2.2.2.1 _ mX6_recall_6_4) (by decide +kernel) ⟨(Nat.le_of_ble_eq_true rfl), (Nat.le_of_ble_eq_true rfl)⟩, C.2.2.2.2.2.1 _ mX6_recall_6_5, trivial⟩ rfl hl.1 rfl (Nat.le_of_ble_eq_true rfl) dX6_recall_13 ⟨Nat.zero_le _, Nat.zero_le _⟩ (fun H locs hP hS => ?_)
  refine lv_istore_n (lv' := [(2, .int r1), (0, .ref (ad 6)), (1, .int x1)]) C.1 C.2.1 dX6_recall_16 rfl hl (by decide) rfl (fun ls hl => ?_)
  replace hl := lv_sub (l' := [(0, .ref (ad 6)), (1, .int x1), (2, .int r1)]) hl [1, 2, 0] rfl
  refine lv_iload_n C.1 C.2.1 dX6_recall_17 rfl (lv_at hl 1 rfl) ?_
  refine lv_aload_n C.1 C.2.1 dX6_recall_18 rfl (lv_at hl 0 rfl) ?_
  refine gX_6_changeDay C hX6_recall_6_X6 hK hP mX6_recall_6_6 dX6_recall_19 ?_
  refine lv_aload_n C.1 C.2.1 dX6_recall_22 rfl (lv_at hl 0 rfl) ?_
  refine gX_6_changes C hX6_recall_6_X6 hK hP mX6_recall_6_7 dX6_recall_23 ?_
  refine lv_aload_n C.1 C.2.1 dX6_recall_26 rfl (lv_at hl 0 rfl) ?_
  refine gX_6_applied C hX6_recall_6_X6 hK hP mX6_recall_6_8 dX6_recall_27 ?_
  obtain ⟨⟨r4, u5⟩, hc6, h⟩ := bd_some h
  try dsimp only at h
  refine ctn_i (As := [.int x1, .ref (ad 34), .int (u2.1 12), .int (u2.1 11)]) (rest := []) (AX_ge hJ) C hK hP hS (metX11_rowsUpTo_a34 l D cy ad st hJ _ x1 (u2.1 12) (u2.1 11) hc6) ⟨va_cnB 4 C.2.2.2.2.2.1 gX6_recall_X11_rowsUpTo_n59 rfl rfl rfl (hK.2.1 (RX6, 59, yX11_rowsUpTo) (by decide +kernel)) (C.2.2.2.2.2.1 _ mX6_recall_6_4) (by decide +kernel) ⟨(Nat.le_of_ble_eq_true rfl), (Nat.le_of_ble_eq_true rfl)⟩, C.2.2.2.2.2.1 _ mX6_recall_6_5, trivial⟩ rfl hl.1 rfl (Nat.le_of_ble_eq_true rfl) dX6_recall_30 ⟨Nat.zero_le _, Nat.zero_le _⟩ (fun H locs hP hS => ?_)
  refine lv_istore_n (lv' := [(3, .int r4), (0, .ref (ad 6)), (1, .int x1), (2, .int r1)]) C.1 C.2.1 dX6_recall_33 rfl hl (by decide) rfl (fun ls hl => ?_)
  replace hl := lv_sub (l' := [(0, .ref (ad 6)), (1, .int x1), (2, .int r1), (3, .int r4)]) hl [1, 2, 3, 0] rfl
  refine lv_iload_n C.1 C.2.1 dX6_recall_34 rfl (lv_at hl 2 rfl) ?_
  refine lv_aload_n C.1 C.2.1 dX6_recall_35 rfl (lv_at hl 0 rfl) ?_
  refine gX_6_known C hX6_recall_6_X6 hK hP mX6_recall_6_3 dX6_recall_36 ?_
  refine lv_icmp_ne (tgt := 51) C.1 C.2.1 dX6_recall_39 (by decide) (fun c39 => ?_) (fun c39 => ?_)
  · rw [if_neg c39] at h
    exact wGX6_recall_6_51 C hK hJ _ _ _ _ _ _ h hP hS (lv_sub hl [0, 2, 3] rfl)
  · rw [if_pos c39] at h
    refine lv_iload_n C.1 C.2.1 dX6_recall_42 rfl (lv_at hl 3 rfl) ?_
    refine lv_aload_n C.1 C.2.1 dX6_recall_43 rfl (lv_at hl 0 rfl) ?_
    refine gX_6_applied C hX6_recall_6_X6 hK hP mX6_recall_6_8 dX6_recall_44 ?_
    refine lv_icmp_ne (tgt := 51) C.1 C.2.1 dX6_recall_47 (by decide) (fun c47 => ?_) (fun c47 => ?_)
    · rw [if_neg c47] at h
      exact wGX6_recall_6_51 C hK hJ _ _ _ _ _ _ h hP hS (lv_sub hl [0, 2, 3] rfl)
    · rw [if_pos c47] at h
      cases h
      exact rt_v C hP hS dX6_recall_50
theorem metX6_recall_6 (l : Launch) (D : va_G) (cy : Nat → ClassId) (ad st : Nat → Nat) (hJ : JX ad st) (sz : Nat) (x1 : Int32) {u : SX} {r : Int32} {u' : SX} (h : fX6_recall_6 x1 u = some (r, u')) : Met l yX6_recall wsX6_recall rmX6_recall_6 (va_Pc [.ref (ad 6), .int x1] (Px D [(cy 0, .int), (cy 1, .long), (cy 2, .boolean), (cy 3, .byte), (cy 4, .object "HissHorn$Text")] st (VX cy ad st) sz u)) (Qv D (VX cy ad st) (AX ad) sz r u') 0 0 (Ax (AX ad) sz) := by
  refine Met.ofW (cc := cX6_recall) (maxL := 5) (ret := none) (by decide) rfl ?_
  intro p e s m args below meth c s₁ B hml hv
  obtain ⟨rfl, hsz, hP, hK⟩ := hv
  subst hsz
  have C : Cx RX6 cX6_recall 5 none wsX6_recall p s m _ meth c := ⟨B.exec, B.bytes, hml, B.returns, findClass_of_methodNamed B.named, atoms_spec (ws := wsX6_recall) B.pre, B.notSynchronized⟩
  have hl := lv_entry ([.ref (ad 6), .int x1]) (n := 5) (Nat.le_of_ble_eq_true rfl)
  rw [lg_entry_eq]
  exact wX6_recall_6 C hK hJ x1 h hP va_S.rf hl

theorem zdX11_span_0 : (and (and (and (and (and (zk cX11_span 0 (.aload_n 0) 1) (zk cX11_span 1 (.iload_n 2) 1)) (and (zk cX11_span 2 (.invokevirtual 174) 3) (zk cX11_span 5 (.ifCond .eq 34) 3))) (and (and (zk cX11_span 39 (.iconst (-1)) 1) (zk cX11_span 40 (.ireturn) 1)) (and (zk cX11_span 8 (.iload_n 3) 1) (zk cX11_span 9 (.invokestatic 177) 3)))) (and (and (and (zk cX11_span 12 (.ifCond .eq 27) 3) (zk cX11_span 15 (.aload_n 0) 1)) (and (zk cX11_span 16 (.getfield 49) 3) (zk cX11_span 19 (.iload_n 1) 1))) (and (and (zk cX11_span 20 (.invokevirtual 180) 3) (zk cX11_span 23 (.ifCond .eq 16) 3)) (and (zk cX11_span 26 (.aload_n 0) 1) (zk cX11_span 27 (.getfield 49) 3))))) (and (and (and (and (zk cX11_span 30 (.getfield 181) 3) (zk cX11_span 33 (.iload_n 1) 1)) (and (zk cX11_span 34 (.iaload) 1) (zk cX11_span 35 (.iload_n 2) 1))) (and (and (zk cX11_span 36 (.if_icmp .le 5) 3) (zk cX11_span 41 (.aload_n 0) 1)) (and (zk cX11_span 42 (.getfield 49) 3) (zk cX11_span 45 (.iload_n 2) 1)))) (and (and (and (zk cX11_span 46 (.invokevirtual 185) 3) (zk cX11_span 49 (.iload_n 3) 1)) (and (zk cX11_span 50 (.ifCond .ne 15) 3) (zk cX11_span 65 (.aload_n 0) 1))) (and (and (zk cX11_span 66 (.getfield 49) 3) (zk cX11_span 69 (.getfield 191) 3)) (and (zk cX11_span 72 (.iload_n 1) 1) (zk cX11_span 73 (.iaload) 1)))))) = true := by decide +kernel
theorem dX11_span_0 : decode cX11_span 0 = .ok (.aload_n 0, 1) := zk_of (zk_l (zk_l (zk_l (zk_l (zk_l zdX11_span_0)))))
theorem dX11_span_1 : decode cX11_span 1 = .ok (.iload_n 2, 1) := zk_of (zk_r (zk_l (zk_l (zk_l (zk_l zdX11_span_0)))))
theorem dX11_span_2 : decode cX11_span 2 = .ok (.invokevirtual 174, 3) := zk_of (zk_l (zk_r (zk_l (zk_l (zk_l zdX11_span_0)))))
theorem dX11_span_5 : decode cX11_span 5 = .ok (.ifCond .eq 34, 3) := zk_of (zk_r (zk_r (zk_l (zk_l (zk_l zdX11_span_0)))))
theorem dX11_span_39 : decode cX11_span 39 = .ok (.iconst (-1), 1) := zk_of (zk_l (zk_l (zk_r (zk_l (zk_l zdX11_span_0)))))
theorem dX11_span_40 : decode cX11_span 40 = .ok (.ireturn, 1) := zk_of (zk_r (zk_l (zk_r (zk_l (zk_l zdX11_span_0)))))
theorem dX11_span_8 : decode cX11_span 8 = .ok (.iload_n 3, 1) := zk_of (zk_l (zk_r (zk_r (zk_l (zk_l zdX11_span_0)))))
theorem dX11_span_9 : decode cX11_span 9 = .ok (.invokestatic 177, 3) := zk_of (zk_r (zk_r (zk_r (zk_l (zk_l zdX11_span_0)))))
theorem dX11_span_12 : decode cX11_span 12 = .ok (.ifCond .eq 27, 3) := zk_of (zk_l (zk_l (zk_l (zk_r (zk_l zdX11_span_0)))))
theorem dX11_span_15 : decode cX11_span 15 = .ok (.aload_n 0, 1) := zk_of (zk_r (zk_l (zk_l (zk_r (zk_l zdX11_span_0)))))
theorem dX11_span_16 : decode cX11_span 16 = .ok (.getfield 49, 3) := zk_of (zk_l (zk_r (zk_l (zk_r (zk_l zdX11_span_0)))))
theorem dX11_span_19 : decode cX11_span 19 = .ok (.iload_n 1, 1) := zk_of (zk_r (zk_r (zk_l (zk_r (zk_l zdX11_span_0)))))
theorem dX11_span_20 : decode cX11_span 20 = .ok (.invokevirtual 180, 3) := zk_of (zk_l (zk_l (zk_r (zk_r (zk_l zdX11_span_0)))))
theorem dX11_span_23 : decode cX11_span 23 = .ok (.ifCond .eq 16, 3) := zk_of (zk_r (zk_l (zk_r (zk_r (zk_l zdX11_span_0)))))
theorem dX11_span_26 : decode cX11_span 26 = .ok (.aload_n 0, 1) := zk_of (zk_l (zk_r (zk_r (zk_r (zk_l zdX11_span_0)))))
theorem dX11_span_27 : decode cX11_span 27 = .ok (.getfield 49, 3) := zk_of (zk_r (zk_r (zk_r (zk_r (zk_l zdX11_span_0)))))
theorem dX11_span_30 : decode cX11_span 30 = .ok (.getfield 181, 3) := zk_of (zk_l (zk_l (zk_l (zk_l (zk_r zdX11_span_0)))))
theorem dX11_span_33 : decode cX11_span 33 = .ok (.iload_n 1, 1) := zk_of (zk_r (zk_l (zk_l (zk_l (zk_r zdX11_span_0)))))
theorem dX11_span_34 : decode cX11_span 34 = .ok (.iaload, 1) := zk_of (zk_l (zk_r (zk_l (zk_l (zk_r zdX11_span_0)))))
theorem dX11_span_35 : decode cX11_span 35 = .ok (.iload_n 2, 1) := zk_of (zk_r (zk_r (zk_l (zk_l (zk_r zdX11_span_0)))))
theorem dX11_span_36 : decode cX11_span 36 = .ok (.if_icmp .le 5, 3) := zk_of (zk_l (zk_l (zk_r (zk_l (zk_r zdX11_span_0)))))
theorem dX11_span_41 : decode cX11_span 41 = .ok (.aload_n 0, 1) := zk_of (zk_r (zk_l (zk_r (zk_l (zk_r zdX11_span_0)))))
theorem dX11_span_42 : decode cX11_span 42 = .ok (.getfield 49, 3) := zk_of (zk_l (zk_r (zk_r (zk_l (zk_r zdX11_span_0)))))
theorem dX11_span_45 : decode cX11_span 45 = .ok (.iload_n 2, 1) := zk_of (zk_r (zk_r (zk_r (zk_l (zk_r zdX11_span_0)))))
theorem dX11_span_46 : decode cX11_span 46 = .ok (.invokevirtual 185, 3) := zk_of (zk_l (zk_l (zk_l (zk_r (zk_r zdX11_span_0)))))
theorem dX11_span_49 : decode cX11_span 49 = .ok (.iload_n 3, 1) := zk_of (zk_r (zk_l (zk_l (zk_r (zk_r zdX11_span_0)))))
theorem dX11_span_50 : decode cX11_span 50 = .ok (.ifCond .ne 15, 3) := zk_of (zk_l (zk_r (zk_l (zk_r (zk_r zdX11_span_0)))))
theorem dX11_span_65 : decode cX11_span 65 = .ok (.aload_n 0, 1) := zk_of (zk_r (zk_r (zk_l (zk_r (zk_r zdX11_span_0)))))
theorem dX11_span_66 : decode cX11_span 66 = .ok (.getfield 49, 3) := zk_of (zk_l (zk_l (zk_r (zk_r (zk_r zdX11_span_0)))))
theorem dX11_span_69 : decode cX11_span 69 = .ok (.getfield 191, 3) := zk_of (zk_r (zk_l (zk_r (zk_r (zk_r zdX11_span_0)))))
theorem dX11_span_72 : decode cX11_span 72 = .ok (.iload_n 1, 1) := zk_of (zk_l (zk_r (zk_r (zk_r (zk_r zdX11_span_0)))))
theorem dX11_span_73 : decode cX11_span 73 = .ok (.iaload, 1) := zk_of (zk_r (zk_r (zk_r (zk_r (zk_r zdX11_span_0)))))
set_option maxRecDepth 20000 in
theorem ggX11_span_X11_isDay : GoodIn wsX11_span wsX11_isDay := ggi (fun w h => List.mem_cons_of_mem _ (List.mem_append_left _ (List.mem_append_left _ (List.mem_append_right _ (List.mem_append_left _ h))))) gs_X11_isDay
set_option maxRecDepth 20000 in
theorem gX11_span_X11_isDay : GoodIn wsX11_span (wsV RX11 174 RX11 yX11_isDay wsX11_isDay) := goodIn_app (goodIn_of _ (by decide +kernel)) ggX11_span_X11_isDay
set_option maxRecDepth 20000 in
theorem ggX11_span_X11_isEither : GoodIn wsX11_span wsX11_isEither := ggi (fun w h => List.mem_cons_of_mem _ (List.mem_append_left _ (List.mem_append_left _ (List.mem_append_right _ (List.mem_append_right _ (List.mem_append_left _ h)))))) gs_X11_isEither
set_option maxRecDepth 20000 in
theorem gX11_span_X11_isEither : GoodIn wsX11_span (va_wsS RX11 177 yX11_isEither wsX11_isEither) := goodIn_app (goodIn_of _ (by decide +kernel)) ggX11_span_X11_isEither
set_option maxRecDepth 20000 in
theorem ggX11_span_X6_has : GoodIn wsX11_span wsX6_has := ggi (fun w h => List.mem_cons_of_mem _ (List.mem_append_left _ (List.mem_append_left _ (List.mem_append_right _ (List.mem_append_right _ (List.mem_append_right _ (List.mem_append_left _ h))))))) gs_X6_has
set_option maxRecDepth 20000 in
theorem gX11_span_X6_has : GoodIn wsX11_span (wsV RX11 180 RX6 yX6_has wsX6_has) := goodIn_app (goodIn_of _ (by decide +kernel)) ggX11_span_X6_has
set_option maxRecDepth 20000 in
theorem ggX11_span_X6_recall : GoodIn wsX11_span wsX6_recall := ggi (fun w h => List.mem_cons_of_mem _ (List.mem_append_left _ (List.mem_append_left _ (List.mem_append_right _ (List.mem_append_right _ (List.mem_append_right _ (List.mem_append_right _ h))))))) gs_X6_recall
set_option maxRecDepth 20000 in
theorem gX11_span_X6_recall : GoodIn wsX11_span (wsV RX11 185 RX6 yX6_recall wsX6_recall) := goodIn_app (goodIn_of _ (by decide +kernel)) ggX11_span_X6_recall
theorem zdX11_span_74 : (and (and (and (zk cX11_span 74 (.ireturn) 1) (zk cX11_span 53 (.aload_n 0) 1)) (and (zk cX11_span 54 (.getfield 49) 3) (zk cX11_span 57 (.getfield 188) 3))) (and (and (zk cX11_span 60 (.iload_n 1) 1) (zk cX11_span 61 (.iaload) 1)) (zk cX11_span 62 (.goto 12) 3))) = true := by decide +kernel
theorem dX11_span_74 : decode cX11_span 74 = .ok (.ireturn, 1) := zk_of (zk_l (zk_l (zk_l zdX11_span_74)))
theorem dX11_span_53 : decode cX11_span 53 = .ok (.aload_n 0, 1) := zk_of (zk_r (zk_l (zk_l zdX11_span_74)))
theorem dX11_span_54 : decode cX11_span 54 = .ok (.getfield 49, 3) := zk_of (zk_l (zk_r (zk_l zdX11_span_74)))
theorem dX11_span_57 : decode cX11_span 57 = .ok (.getfield 188, 3) := zk_of (zk_r (zk_r (zk_l zdX11_span_74)))
theorem dX11_span_60 : decode cX11_span 60 = .ok (.iload_n 1, 1) := zk_of (zk_l (zk_l (zk_r zdX11_span_74)))
theorem dX11_span_61 : decode cX11_span 61 = .ok (.iaload, 1) := zk_of (zk_r (zk_l (zk_r zdX11_span_74)))
theorem dX11_span_62 : decode cX11_span 62 = .ok (.goto 12, 3) := zk_of (zk_r (zk_r zdX11_span_74))
/-- HissHorn.span(III)I of cell 0 -/
def rmX11_span_0 : Room := { frames := 3, cells := 0, slots := 0, locals := 72 }
theorem hX11_span_0_X11 : ∀ w ∈ u_ws RX11 TX11 13, w ∈ wsX11_span := fun w h => (List.mem_cons_of_mem _ (List.mem_append_left _ (List.mem_append_right _ h)))
theorem mX11_span_0_1 : Cond.fieldLink RX11 49 "HissHorn" "parts" "LHissHorn$Parts;" ∈ wsX11_span := (List.mem_cons_of_mem _ (List.mem_append_left _ (List.mem_append_left _ (List.mem_append_left _ (List.mem_of_getElem? (i := 13) rfl)))))
theorem hX11_span_0_X6 : ∀ w ∈ u_ws RX6 TX6 17, w ∈ wsX11_span := fun w h => (List.mem_cons_of_mem _ (List.mem_append_right _ h))
theorem mX11_span_0_3 : Cond.fieldLink RX11 181 "HissHorn$Parts" "day" "[I" ∈ wsX11_span := (List.mem_cons_of_mem _ (List.mem_append_left _ (List.mem_append_left _ (List.mem_append_left _ (List.mem_of_getElem? (i := 14) rfl)))))
theorem mX11_span_0_4 : Cond.fieldLink RX11 191 "HissHorn$Parts" "high" "[I" ∈ wsX11_span := (List.mem_cons_of_mem _ (List.mem_append_left _ (List.mem_append_left _ (List.mem_append_left _ (List.mem_of_getElem? (i := 15) rfl)))))
theorem mX11_span_0_5 : Cond.fieldLink RX11 188 "HissHorn$Parts" "low" "[I" ∈ wsX11_span := (List.mem_cons_of_mem _ (List.mem_append_left _ (List.mem_append_left _ (List.mem_append_left _ (List.mem_of_getElem? (i := 16) rfl)))))
def fX11_span_0 (x1 : Int32) (x2 : Int32) (x3 : Int32) (u : SX) : Option (Int32 × SX) := ((fX11_isDay_0 x2 u).bind fun q => match q with | (r1, u2) => (if r1 = 0 then (some ((-1), u2)) else ((fX11_isEither x3).bind fun r4 => (if r4 = 0 then (some ((-1), u2)) else ((fX6_has_6 x1 u2).bind fun q => match q with | (r7, u8) => (if r7 = 0 then (some ((-1), u8)) else (gd (inb x1 12) (if (u8.2.1 25 x1.toNatClampNeg) ≤ x2 then ((fX6_recall_6 x2 u8).bind fun q => match q with | (r11, u12) => (if x3 = 0 then (gd (inb x1 12) (some (u12.2.1 27 x1.toNatClampNeg, u12))) else (gd (inb x1 12) (some (u12.2.1 28 x1.toNatClampNeg, u12))))) else (some ((-1), u8))))))))))
set_option maxHeartbeats 4000000 in
set_option maxRecDepth 100000 in
theorem wX11_span_0 {p : Program} {l : Launch} {e : Env} {s : State} {m : MethodId} {args : Array Value} {below : List Frame} {meth : Method} {c : Code} {D : va_G} {cy : Nat → ClassId} {ad st : Nat → Nat} (C : Cx RX11 cX11_span 4 (some .int) wsX11_span p s m args meth c) (hK : Ky D [(cy 0, .int), (cy 1, .long), (cy 2, .boolean), (cy 3, .byte), (cy 4, .object "HissHorn$Text")] st s) (hJ : JX ad st) (x1 : Int32) (x2 : Int32) (x3 : Int32) {u : SX} {r : Int32} {u' : SX} {H : Heap} {locs : List Loc} {ls : Array Slot} (h : fX11_span_0 x1 x2 x3 u = some (r, u')) (hP : va_P D vwCl (VX cy ad st u) H) (hS : va_S (Ax (AX ad) s.heap.size) s.heap H locs) (hl : lv_has ls 4 [(0, .ref (ad 0)), (1, .int x1), (2, .int x2), (3, .int x3)]) : W p l e rmX11_span_0 s m args below meth c H locs 0 0 (MQ below (Qi D (VX cy ad st) (AX ad) s.heap.size r u') args s 0 0 (Ax (AX ad) s.heap.size)) (F0 m 0 ls []) := by
  unfold fX11_span_0 at h
  refine lv_aload_n C.1 C.2.1 dX11_span_0 rfl (lv_at hl 0 rfl) ?_
  refine lv_iload_n C.1 C.2.1 dX11_span_1 rfl (lv_at hl 2 rfl) ?_
  obtain ⟨⟨r1, u2⟩, hc3, h⟩ := bd_some h
  try dsimp only at h
  refine cg_i (As := [.int x2]) (rest := []) (AX_ge hJ) C hK hP hS (metX11_isDay_0 l D cy ad st hJ _ x2 hc3) (cwV 1 C.2.2.2.2.2.1 gX11_span_X11_isDay rfl rfl rfl (by decide +kernel) ⟨(Nat.le_of_ble_eq_true rfl), (Nat.le_of_ble_eq_true rfl)⟩) 0 11 rfl rfl rfl hl.1 rfl (Nat.le_of_ble_eq_true rfl) dX11_span_2 ⟨Nat.zero_le _, Nat.zero_le _⟩ (fun H locs hP hS => ?_)
  refine lv_if_eq (tgt := 39) C.1 C.2.1 dX11_span_5 (by decide) (fun c5 => ?_) (fun c5 => ?_)
  · rw [if_pos c5] at h
    refine lv_iconst (v := (-1)) C.1 C.2.1 dX11_span_39 (by decide) ?_
    cases h
    exact rt_i C hP hS dX11_span_40
  · rw [if_neg c5] at h
    refine lv_iload_n C.1 C.2.1 dX11_span_8 rfl (lv_at hl 3 rfl) ?_
    obtain ⟨r4, hc6, h⟩ := bd_some h
    refine cs_i (As := [.int x3]) (rest := []) (AX_ge hJ) C hK hP hS (metX11_isEither l D cy st _ x3 hc6) (va_cwS 1 C.2.2.2.2.2.1 gX11_span_X11_isEither rfl rfl rfl (by decide +kernel) ⟨(Nat.le_of_ble_eq_true rfl), (Nat.le_of_ble_eq_true rfl)⟩) rfl hl.1 rfl (Nat.le_of_ble_eq_true rfl) dX11_span_9 ⟨Nat.zero_le _, Nat.zero_le _⟩ (fun H locs hP hS => ?_)
    refine lv_if_eq (tgt := 39) C.1 C.2.1 dX11_span_12 (by decide) (fun c12 => ?_) (fun c12 => ?_)
    · rw [if_pos c12] at h
      refine lv_iconst (v := (-1)) C.1 C.2.1 dX11_span_39 (by decide) ?_
      cases h
      exact rt_i C hP hS dX11_span_40
    · rw [if_neg c12] at h
      refine lv_aload_n C.1 C.2.1 dX11_span_15 rfl (lv_at hl 0 rfl) ?_
      refine gX_0_parts C hX11_span_0_X11 hK hP mX11_span_0_1 dX11_span_16 ?_
      refine lv_iload_n C.1 C.2.1 dX11_span_19 rfl (lv_at hl 1 rfl) ?_
      obtain ⟨⟨r7, u8⟩, hc9, h⟩ := bd_some h
      try dsimp only at h
      refine cg_i (As := [.int x1]) (rest := []) (AX_ge hJ) C hK hP hS (metX6_has_6 l D cy ad st hJ _ x1 hc9) (cwV 1 C.2.2.2.2.2.1 gX11_span_X6_has rfl rfl rfl (by decide +kernel) ⟨(Nat.le_of_ble_eq_true rfl), (Nat.le_of_ble_eq_true rfl)⟩) 6 6 rfl rfl rfl hl.1 rfl (Nat.le_of_ble_eq_true rfl) dX11_span_20 ⟨Nat.zero_le _, Nat.zero_le _⟩ (fun H locs hP hS => ?_)
      refine lv_if_eq (tgt := 39) C.1 C.2.1 dX11_span_23 (by decide) (fun c23 => ?_) (fun c23 => ?_)
      · rw [if_pos c23] at h
        refine lv_iconst (v := (-1)) C.1 C.2.1 dX11_span_39 (by decide) ?_
        cases h
        exact rt_i C hP hS dX11_span_40
      · rw [if_neg c23] at h
        refine lv_aload_n C.1 C.2.1 dX11_span_26 rfl (lv_at hl 0 rfl) ?_
        refine gX_0_parts C hX11_span_0_X11 hK hP mX11_span_0_1 dX11_span_27 ?_
        refine gX_6_day C hX11_span_0_X6 hK hP mX11_span_0_3 dX11_span_30 ?_
        refine lv_iload_n C.1 C.2.1 dX11_span_33 rfl (lv_at hl 1 rfl) ?_
        obtain ⟨hg10, h⟩ := gd_some h
        refine lX_25 C hK hP hg10 dX11_span_34 ?_
        refine lv_iload_n C.1 C.2.1 dX11_span_35 rfl (lv_at hl 2 rfl) ?_
        refine lv_icmp_le (tgt := 41) C.1 C.2.1 dX11_span_36 (by decide) (fun c36 => ?_) (fun c36 => ?_)
        · rw [if_pos c36] at h
          refine lv_aload_n C.1 C.2.1 dX11_span_41 rfl (lv_at hl 0 rfl) ?_
          refine gX_0_parts C hX11_span_0_X11 hK hP mX11_span_0_1 dX11_span_42 ?_
          refine lv_iload_n C.1 C.2.1 dX11_span_45 rfl (lv_at hl 2 rfl) ?_
          obtain ⟨⟨r11, u12⟩, hc13, h⟩ := bd_some h
          try dsimp only at h
          refine cg_v (As := [.int x2]) (rest := []) (AX_ge hJ) C hK hP hS (metX6_recall_6 l D cy ad st hJ _ x2 hc13) (cwV 1 C.2.2.2.2.2.1 gX11_span_X6_recall rfl rfl rfl (by decide +kernel) ⟨(Nat.le_of_ble_eq_true rfl), (Nat.le_of_ble_eq_true rfl)⟩) 6 6 rfl rfl rfl hl.1 rfl (Nat.le_of_ble_eq_true rfl) dX11_span_46 ⟨Nat.zero_le _, Nat.zero_le _⟩ (fun H locs hP hS => ?_)
          refine lv_iload_n C.1 C.2.1 dX11_span_49 rfl (lv_at hl 3 rfl) ?_
          refine lv_if_ne (tgt := 65) C.1 C.2.1 dX11_span_50 (by decide) (fun c50 => ?_) (fun c50 => ?_)
          · rw [if_neg c50] at h
            refine lv_aload_n C.1 C.2.1 dX11_span_65 rfl (lv_at hl 0 rfl) ?_
            refine gX_0_parts C hX11_span_0_X11 hK hP mX11_span_0_1 dX11_span_66 ?_
            refine gX_6_high C hX11_span_0_X6 hK hP mX11_span_0_4 dX11_span_69 ?_
            refine lv_iload_n C.1 C.2.1 dX11_span_72 rfl (lv_at hl 1 rfl) ?_
            obtain ⟨hg14, h⟩ := gd_some h
            refine lX_28 C hK hP hg14 dX11_span_73 ?_
            cases h
            exact rt_i C hP hS dX11_span_74
          · rw [if_pos c50] at h
            refine lv_aload_n C.1 C.2.1 dX11_span_53 rfl (lv_at hl 0 rfl) ?_
            refine gX_0_parts C hX11_span_0_X11 hK hP mX11_span_0_1 dX11_span_54 ?_
            refine gX_6_low C hX11_span_0_X6 hK hP mX11_span_0_5 dX11_span_57 ?_
            refine lv_iload_n C.1 C.2.1 dX11_span_60 rfl (lv_at hl 1 rfl) ?_
            obtain ⟨hg15, h⟩ := gd_some h
            refine lX_27 C hK hP hg15 dX11_span_61 ?_
            refine lv_goto (tgt := 74) C.1 C.2.1 dX11_span_62 (by decide) ?_
            cases h
            exact rt_i C hP hS dX11_span_74
        · rw [if_neg c36] at h
          refine lv_iconst (v := (-1)) C.1 C.2.1 dX11_span_39 (by decide) ?_
          cases h
          exact rt_i C hP hS dX11_span_40
theorem metX11_span_0 (l : Launch) (D : va_G) (cy : Nat → ClassId) (ad st : Nat → Nat) (hJ : JX ad st) (sz : Nat) (x1 : Int32) (x2 : Int32) (x3 : Int32) {u : SX} {r : Int32} {u' : SX} (h : fX11_span_0 x1 x2 x3 u = some (r, u')) : Met l yX11_span wsX11_span rmX11_span_0 (va_Pc [.ref (ad 0), .int x1, .int x2, .int x3] (Px D [(cy 0, .int), (cy 1, .long), (cy 2, .boolean), (cy 3, .byte), (cy 4, .object "HissHorn$Text")] st (VX cy ad st) sz u)) (Qi D (VX cy ad st) (AX ad) sz r u') 0 0 (Ax (AX ad) sz) := by
  refine Met.ofW (cc := cX11_span) (maxL := 4) (ret := (some .int)) (by decide) rfl ?_
  intro p e s m args below meth c s₁ B hml hv
  obtain ⟨rfl, hsz, hP, hK⟩ := hv
  subst hsz
  have C : Cx RX11 cX11_span 4 (some .int) wsX11_span p s m _ meth c := ⟨B.exec, B.bytes, hml, B.returns, findClass_of_methodNamed B.named, atoms_spec (ws := wsX11_span) B.pre, B.notSynchronized⟩
  have hl := lv_entry ([.ref (ad 0), .int x1, .int x2, .int x3]) (n := 4) (Nat.le_of_ble_eq_true rfl)
  rw [lg_entry_eq]
  exact wX11_span_0 C hK hJ x1 x2 x3 h hP va_S.rf hl

theorem zdX11_seasonOf_0 : (and (and (and (zk cX11_seasonOf 0 (.iload_n 0) 1) (zk cX11_seasonOf 1 (.bipush 30) 2)) (zk cX11_seasonOf 3 (.idiv) 1)) (and (and (zk cX11_seasonOf 4 (.iconst 4) 1) (zk cX11_seasonOf 5 (.irem) 1)) (zk cX11_seasonOf 6 (.ireturn) 1))) = true := by decide +kernel
theorem dX11_seasonOf_0 : decode cX11_seasonOf 0 = .ok (.iload_n 0, 1) := zk_of (zk_l (zk_l (zk_l zdX11_seasonOf_0)))
theorem dX11_seasonOf_1 : decode cX11_seasonOf 1 = .ok (.bipush 30, 2) := zk_of (zk_r (zk_l (zk_l zdX11_seasonOf_0)))
theorem dX11_seasonOf_3 : decode cX11_seasonOf 3 = .ok (.idiv, 1) := zk_of (zk_r (zk_l zdX11_seasonOf_0))
theorem dX11_seasonOf_4 : decode cX11_seasonOf 4 = .ok (.iconst 4, 1) := zk_of (zk_l (zk_l (zk_r zdX11_seasonOf_0)))
theorem dX11_seasonOf_5 : decode cX11_seasonOf 5 = .ok (.irem, 1) := zk_of (zk_r (zk_l (zk_r zdX11_seasonOf_0)))
theorem dX11_seasonOf_6 : decode cX11_seasonOf 6 = .ok (.ireturn, 1) := zk_of (zk_r (zk_r zdX11_seasonOf_0))
/-- HissHorn.seasonOf(I)I -/
def rmX11_seasonOf : Room := { frames := 0, cells := 0, slots := 0, locals := 0 }
def fX11_seasonOf (x0 : Int32) : Option Int32 := (gd (nz 30) (gd (nz 4) (some ((x0 / 30) - (x0 / 30) / 4 * 4))))
set_option maxHeartbeats 4000000 in
set_option maxRecDepth 100000 in
theorem wX11_seasonOf {p : Program} {l : Launch} {e : Env} {s : State} {m : MethodId} {args : Array Value} {below : List Frame} {meth : Method} {c : Code} {D : va_G} {cy : Nat → ClassId} {st : Nat → Nat} (C : Cx RX11 cX11_seasonOf 1 (some .int) wsX11_seasonOf p s m args meth c) (hK : Ky D [(cy 0, .int), (cy 1, .long), (cy 2, .boolean), (cy 3, .byte), (cy 4, .object "HissHorn$Text")] st s) (x0 : Int32) {r : Int32} {H : Heap} {locs : List Loc} {ls : Array Slot} (h : fX11_seasonOf x0 = some r) (hP : va_P D vwCl (V0 u00) H) (hS : va_S (Ax (A0) s.heap.size) s.heap H locs) (hl : lv_has ls 1 [(0, .int x0)]) : W p l e rmX11_seasonOf s m args below meth c H locs 0 0 (MQ below (Qi D (V0) (A0) s.heap.size r u00) args s 0 0 (Ax (A0) s.heap.size)) (F0 m 0 ls []) := by
  unfold fX11_seasonOf at h
  refine lv_iload_n C.1 C.2.1 dX11_seasonOf_0 rfl (lv_at hl 0 rfl) ?_
  refine lv_bipush (v := 30) C.1 C.2.1 dX11_seasonOf_1 (by decide) ?_
  obtain ⟨hg1, h⟩ := gd_some h
  refine lv_idiv C.1 C.2.1 dX11_seasonOf_3 (nz_n hg1) ?_
  refine lv_iconst (v := 4) C.1 C.2.1 dX11_seasonOf_4 (by decide) ?_
  obtain ⟨hg2, h⟩ := gd_some h
  refine lv_irem C.1 C.2.1 dX11_seasonOf_5 (nz_n hg2) ?_
  cases h
  exact rt_i C hP hS dX11_seasonOf_6
theorem metX11_seasonOf (l : Launch) (D : va_G) (cy : Nat → ClassId) (st : Nat → Nat) (sz : Nat) (x0 : Int32) {r : Int32} (h : fX11_seasonOf x0 = some r) : Met l yX11_seasonOf wsX11_seasonOf rmX11_seasonOf (va_Pc [.int x0] (Px D [(cy 0, .int), (cy 1, .long), (cy 2, .boolean), (cy 3, .byte), (cy 4, .object "HissHorn$Text")] st V0 sz u00)) (Qi D V0 A0 sz r u00) 0 0 (Ax A0 sz) := by
  refine Met.ofW (cc := cX11_seasonOf) (maxL := 1) (ret := (some .int)) (by decide) rfl ?_
  intro p e s m args below meth c s₁ B hml hv
  obtain ⟨rfl, hsz, hP, hK⟩ := hv
  subst hsz
  have C : Cx RX11 cX11_seasonOf 1 (some .int) wsX11_seasonOf p s m _ meth c := ⟨B.exec, B.bytes, hml, B.returns, findClass_of_methodNamed B.named, atoms_spec (ws := wsX11_seasonOf) B.pre, B.notSynchronized⟩
  have hl := lv_entry ([.int x0]) (n := 1) (Nat.le_of_ble_eq_true rfl)
  rw [lg_entry_eq]
  exact wX11_seasonOf C hK x0 h hP va_S.rf hl

theorem zdX11_shine_0 : (and (and (and (zk cX11_shine 0 (.iload_n 0) 1) (zk cX11_shine 1 (.iload_n 1) 1)) (zk cX11_shine 2 (.imul) 1)) (and (and (zk cX11_shine 3 (.bipush 100) 2) (zk cX11_shine 5 (.idiv) 1)) (zk cX11_shine 6 (.ireturn) 1))) = true := by decide +kernel
theorem dX11_shine_0 : decode cX11_shine 0 = .ok (.iload_n 0, 1) := zk_of (zk_l (zk_l (zk_l zdX11_shine_0)))
theorem dX11_shine_1 : decode cX11_shine 1 = .ok (.iload_n 1, 1) := zk_of (zk_r (zk_l (zk_l zdX11_shine_0)))
theorem dX11_shine_2 : decode cX11_shine 2 = .ok (.imul, 1) := zk_of (zk_r (zk_l zdX11_shine_0))
theorem dX11_shine_3 : decode cX11_shine 3 = .ok (.bipush 100, 2) := zk_of (zk_l (zk_l (zk_r zdX11_shine_0)))
theorem dX11_shine_5 : decode cX11_shine 5 = .ok (.idiv, 1) := zk_of (zk_r (zk_l (zk_r zdX11_shine_0)))
theorem dX11_shine_6 : decode cX11_shine 6 = .ok (.ireturn, 1) := zk_of (zk_r (zk_r zdX11_shine_0))
/-- HissHorn.shine(II)I -/
def rmX11_shine : Room := { frames := 0, cells := 0, slots := 0, locals := 0 }
def fX11_shine (x0 : Int32) (x1 : Int32) : Option Int32 := (gd (nz 100) (some ((x0 * x1) / 100)))
set_option maxHeartbeats 4000000 in
set_option maxRecDepth 100000 in
theorem wX11_shine {p : Program} {l : Launch} {e : Env} {s : State} {m : MethodId} {args : Array Value} {below : List Frame} {meth : Method} {c : Code} {D : va_G} {cy : Nat → ClassId} {st : Nat → Nat} (C : Cx RX11 cX11_shine 2 (some .int) wsX11_shine p s m args meth c) (hK : Ky D [(cy 0, .int), (cy 1, .long), (cy 2, .boolean), (cy 3, .byte), (cy 4, .object "HissHorn$Text")] st s) (x0 : Int32) (x1 : Int32) {r : Int32} {H : Heap} {locs : List Loc} {ls : Array Slot} (h : fX11_shine x0 x1 = some r) (hP : va_P D vwCl (V0 u00) H) (hS : va_S (Ax (A0) s.heap.size) s.heap H locs) (hl : lv_has ls 2 [(0, .int x0), (1, .int x1)]) : W p l e rmX11_shine s m args below meth c H locs 0 0 (MQ below (Qi D (V0) (A0) s.heap.size r u00) args s 0 0 (Ax (A0) s.heap.size)) (F0 m 0 ls []) := by
  unfold fX11_shine at h
  refine lv_iload_n C.1 C.2.1 dX11_shine_0 rfl (lv_at hl 0 rfl) ?_
  refine lv_iload_n C.1 C.2.1 dX11_shine_1 rfl (lv_at hl 1 rfl) ?_
  refine lv_imul C.1 C.2.1 dX11_shine_2 ?_
  refine lv_bipush (v := 100) C.1 C.2.1 dX11_shine_3 (by decide) ?_
  obtain ⟨hg1, h⟩ := gd_some h
  refine lv_idiv C.1 C.2.1 dX11_shine_5 (nz_n hg1) ?_
  cases h
  exact rt_i C hP hS dX11_shine_6
theorem metX11_shine (l : Launch) (D : va_G) (cy : Nat → ClassId) (st : Nat → Nat) (sz : Nat) (x0 : Int32) (x1 : Int32) {r : Int32} (h : fX11_shine x0 x1 = some r) : Met l yX11_shine wsX11_shine rmX11_shine (va_Pc [.int x0, .int x1] (Px D [(cy 0, .int), (cy 1, .long), (cy 2, .boolean), (cy 3, .byte), (cy 4, .object "HissHorn$Text")] st V0 sz u00)) (Qi D V0 A0 sz r u00) 0 0 (Ax A0 sz) := by
  refine Met.ofW (cc := cX11_shine) (maxL := 2) (ret := (some .int)) (by decide) rfl ?_
  intro p e s m args below meth c s₁ B hml hv
  obtain ⟨rfl, hsz, hP, hK⟩ := hv
  subst hsz
  have C : Cx RX11 cX11_shine 2 (some .int) wsX11_shine p s m _ meth c := ⟨B.exec, B.bytes, hml, B.returns, findClass_of_methodNamed B.named, atoms_spec (ws := wsX11_shine) B.pre, B.notSynchronized⟩
  have hl := lv_entry ([.int x0, .int x1]) (n := 2) (Nat.le_of_ble_eq_true rfl)
  rw [lg_entry_eq]
  exact wX11_shine C hK x0 x1 h hP va_S.rf hl

theorem zdX11_trueSum_4 : (and (and (and (and (and (zk cX11_trueSum 4 (.iload_n 2) 1) (zk cX11_trueSum 5 (.aload_n 0) 1)) (and (zk cX11_trueSum 6 (.getfield 49) 3) (zk cX11_trueSum 9 (.getfield 168) 3))) (and (and (zk cX11_trueSum 12 (.if_icmp .ge 40) 3) (zk cX11_trueSum 52 (.iload_n 1) 1)) (and (zk cX11_trueSum 53 (.ireturn) 1) (zk cX11_trueSum 15 (.iload_n 1) 1)))) (and (and (and (zk cX11_trueSum 16 (.aload_n 0) 1) (zk cX11_trueSum 17 (.getfield 49) 3)) (and (zk cX11_trueSum 20 (.getfield 266) 3) (zk cX11_trueSum 23 (.iload_n 2) 1))) (and (and (zk cX11_trueSum 24 (.iaload) 1) (zk cX11_trueSum 25 (.aload_n 0) 1)) (zk cX11_trueSum 26 (.getfield 32) 3)))) (and (and (and (and (zk cX11_trueSum 29 (.aload_n 0) 1) (zk cX11_trueSum 30 (.getfield 49) 3)) (and (zk cX11_trueSum 33 (.getfield 389) 3) (zk cX11_trueSum 36 (.iload_n 2) 1))) (and (and (zk cX11_trueSum 37 (.iaload) 1) (zk cX11_trueSum 38 (.invokevirtual 161) 3)) (and (zk cX11_trueSum 41 (.invokestatic 392) 3) (zk cX11_trueSum 44 (.iadd) 1)))) (and (and (and (zk cX11_trueSum 45 (.istore_n 1) 1) (zk cX11_trueSum 46 (.iinc 2 1) 3)) (and (zk cX11_trueSum 49 (.goto (-45)) 3) (zk cX11_trueSum 0 (.iconst 0) 1))) (and (and (zk cX11_trueSum 1 (.istore_n 1) 1) (zk cX11_trueSum 2 (.iconst 0) 1)) (zk cX11_trueSum 3 (.istore_n 2) 1))))) = true := by decide +kernel
theorem dX11_trueSum_4 : decode cX11_trueSum 4 = .ok (.iload_n 2, 1) := zk_of (zk_l (zk_l (zk_l (zk_l (zk_l zdX11_trueSum_4)))))
theorem dX11_trueSum_5 : decode cX11_trueSum 5 = .ok (.aload_n 0, 1) := zk_of (zk_r (zk_l (zk_l (zk_l (zk_l zdX11_trueSum_4)))))
theorem dX11_trueSum_6 : decode cX11_trueSum 6 = .ok (.getfield 49, 3) := zk_of (zk_l (zk_r (zk_l (zk_l (zk_l zdX11_trueSum_4)))))
theorem dX11_trueSum_9 : decode cX11_trueSum 9 = .ok (.getfield 168, 3) := zk_of (zk_r (zk_r (zk_l (zk_l (zk_l zdX11_trueSum_4)))))
theorem dX11_trueSum_12 : decode cX11_trueSum 12 = .ok (.if_icmp .ge 40, 3) := zk_of (zk_l (zk_l (zk_r (zk_l (zk_l zdX11_trueSum_4)))))
theorem dX11_trueSum_52 : decode cX11_trueSum 52 = .ok (.iload_n 1, 1) := zk_of (zk_r (zk_l (zk_r (zk_l (zk_l zdX11_trueSum_4)))))
theorem dX11_trueSum_53 : decode cX11_trueSum 53 = .ok (.ireturn, 1) := zk_of (zk_l (zk_r (zk_r (zk_l (zk_l zdX11_trueSum_4)))))
theorem dX11_trueSum_15 : decode cX11_trueSum 15 = .ok (.iload_n 1, 1) := zk_of (zk_r (zk_r (zk_r (zk_l (zk_l zdX11_trueSum_4)))))
theorem dX11_trueSum_16 : decode cX11_trueSum 16 = .ok (.aload_n 0, 1) := zk_of (zk_l (zk_l (zk_l (zk_r (zk_l zdX11_trueSum_4)))))
theorem dX11_trueSum_17 : decode cX11_trueSum 17 = .ok (.getfield 49, 3) := zk_of (zk_r (zk_l (zk_l (zk_r (zk_l zdX11_trueSum_4)))))
theorem dX11_trueSum_20 : decode cX11_trueSum 20 = .ok (.getfield 266, 3) := zk_of (zk_l (zk_r (zk_l (zk_r (zk_l zdX11_trueSum_4)))))
theorem dX11_trueSum_23 : decode cX11_trueSum 23 = .ok (.iload_n 2, 1) := zk_of (zk_r (zk_r (zk_l (zk_r (zk_l zdX11_trueSum_4)))))
theorem dX11_trueSum_24 : decode cX11_trueSum 24 = .ok (.iaload, 1) := zk_of (zk_l (zk_l (zk_r (zk_r (zk_l zdX11_trueSum_4)))))
theorem dX11_trueSum_25 : decode cX11_trueSum 25 = .ok (.aload_n 0, 1) := zk_of (zk_r (zk_l (zk_r (zk_r (zk_l zdX11_trueSum_4)))))
theorem dX11_trueSum_26 : decode cX11_trueSum 26 = .ok (.getfield 32, 3) := zk_of (zk_r (zk_r (zk_r (zk_l zdX11_trueSum_4))))
theorem dX11_trueSum_29 : decode cX11_trueSum 29 = .ok (.aload_n 0, 1) := zk_of (zk_l (zk_l (zk_l (zk_l (zk_r zdX11_trueSum_4)))))
theorem dX11_trueSum_30 : decode cX11_trueSum 30 = .ok (.getfield 49, 3) := zk_of (zk_r (zk_l (zk_l (zk_l (zk_r zdX11_trueSum_4)))))
theorem dX11_trueSum_33 : decode cX11_trueSum 33 = .ok (.getfield 389, 3) := zk_of (zk_l (zk_r (zk_l (zk_l (zk_r zdX11_trueSum_4)))))
theorem dX11_trueSum_36 : decode cX11_trueSum 36 = .ok (.iload_n 2, 1) := zk_of (zk_r (zk_r (zk_l (zk_l (zk_r zdX11_trueSum_4)))))
theorem dX11_trueSum_37 : decode cX11_trueSum 37 = .ok (.iaload, 1) := zk_of (zk_l (zk_l (zk_r (zk_l (zk_r zdX11_trueSum_4)))))
theorem dX11_trueSum_38 : decode cX11_trueSum 38 = .ok (.invokevirtual 161, 3) := zk_of (zk_r (zk_l (zk_r (zk_l (zk_r zdX11_trueSum_4)))))
theorem dX11_trueSum_41 : decode cX11_trueSum 41 = .ok (.invokestatic 392, 3) := zk_of (zk_l (zk_r (zk_r (zk_l (zk_r zdX11_trueSum_4)))))
theorem dX11_trueSum_44 : decode cX11_trueSum 44 = .ok (.iadd, 1) := zk_of (zk_r (zk_r (zk_r (zk_l (zk_r zdX11_trueSum_4)))))
theorem dX11_trueSum_45 : decode cX11_trueSum 45 = .ok (.istore_n 1, 1) := zk_of (zk_l (zk_l (zk_l (zk_r (zk_r zdX11_trueSum_4)))))
theorem dX11_trueSum_46 : decode cX11_trueSum 46 = .ok (.iinc 2 1, 3) := zk_of (zk_r (zk_l (zk_l (zk_r (zk_r zdX11_trueSum_4)))))
theorem dX11_trueSum_49 : decode cX11_trueSum 49 = .ok (.goto (-45), 3) := zk_of (zk_l (zk_r (zk_l (zk_r (zk_r zdX11_trueSum_4)))))
theorem dX11_trueSum_0 : decode cX11_trueSum 0 = .ok (.iconst 0, 1) := zk_of (zk_r (zk_r (zk_l (zk_r (zk_r zdX11_trueSum_4)))))
theorem dX11_trueSum_1 : decode cX11_trueSum 1 = .ok (.istore_n 1, 1) := zk_of (zk_l (zk_l (zk_r (zk_r (zk_r zdX11_trueSum_4)))))
theorem dX11_trueSum_2 : decode cX11_trueSum 2 = .ok (.iconst 0, 1) := zk_of (zk_r (zk_l (zk_r (zk_r (zk_r zdX11_trueSum_4)))))
theorem dX11_trueSum_3 : decode cX11_trueSum 3 = .ok (.istore_n 2, 1) := zk_of (zk_r (zk_r (zk_r (zk_r zdX11_trueSum_4))))
set_option maxRecDepth 20000 in
theorem ggX11_trueSum_X8_ask : GoodIn wsX11_trueSum wsX8_ask := ggi (fun w h => List.mem_cons_of_mem _ (List.mem_append_left _ (List.mem_append_left _ (List.mem_append_left _ (List.mem_append_left _ (List.mem_append_right _ (List.mem_append_left _ h))))))) gs_X8_ask
set_option maxRecDepth 20000 in
theorem gX11_trueSum_X8_ask : GoodIn wsX11_trueSum (wsV RX11 161 RX8 yX8_ask wsX8_ask) := goodIn_app (goodIn_of _ (by decide +kernel)) ggX11_trueSum_X8_ask
set_option maxRecDepth 20000 in
theorem ggX11_trueSum_X11_shine : GoodIn wsX11_trueSum wsX11_shine := ggi (fun w h => List.mem_cons_of_mem _ (List.mem_append_left _ (List.mem_append_left _ (List.mem_append_left _ (List.mem_append_left _ (List.mem_append_right _ (List.mem_append_right _ h))))))) gs_X11_shine
set_option maxRecDepth 20000 in
theorem gX11_trueSum_X11_shine : GoodIn wsX11_trueSum (va_wsS RX11 392 yX11_shine wsX11_shine) := goodIn_app (goodIn_of _ (by decide +kernel)) ggX11_trueSum_X11_shine
/-- HissHorn.trueSum()I of cell 0 -/
def rmX11_trueSum_0 : Room := { frames := 4, cells := 0, slots := 0, locals := 87 }
theorem hX11_trueSum_0_X11 : ∀ w ∈ u_ws RX11 TX11 13, w ∈ wsX11_trueSum := fun w h => (List.mem_cons_of_mem _ (List.mem_append_left _ (List.mem_append_left _ (List.mem_append_left _ (List.mem_append_right _ h)))))
theorem mX11_trueSum_0_1 : Cond.fieldLink RX11 49 "HissHorn" "parts" "LHissHorn$Parts;" ∈ wsX11_trueSum := (List.mem_cons_of_mem _ (List.mem_append_left _ (List.mem_append_left _ (List.mem_append_left _ (List.mem_append_left _ (List.mem_append_left _ (List.mem_of_getElem? (i := 7) rfl)))))))
theorem hX11_trueSum_0_X6 : ∀ w ∈ u_ws RX6 TX6 17, w ∈ wsX11_trueSum := fun w h => (List.mem_cons_of_mem _ (List.mem_append_left _ (List.mem_append_left _ (List.mem_append_right _ h))))
theorem mX11_trueSum_0_3 : Cond.fieldLink RX11 168 "HissHorn$Parts" "size" "I" ∈ wsX11_trueSum := (List.mem_cons_of_mem _ (List.mem_append_left _ (List.mem_append_left _ (List.mem_append_left _ (List.mem_append_left _ (List.mem_append_left _ (List.mem_of_getElem? (i := 8) rfl)))))))
theorem mX11_trueSum_0_4 : Cond.fieldLink RX11 266 "HissHorn$Parts" "truly" "[I" ∈ wsX11_trueSum := (List.mem_cons_of_mem _ (List.mem_append_left _ (List.mem_append_left _ (List.mem_append_left _ (List.mem_append_left _ (List.mem_append_left _ (List.mem_of_getElem? (i := 9) rfl)))))))
theorem mX11_trueSum_0_5 : Cond.fieldLink RX11 32 "HissHorn" "laws" "LHissHorn$Shelf;" ∈ wsX11_trueSum := (List.mem_cons_of_mem _ (List.mem_append_left _ (List.mem_append_left _ (List.mem_append_left _ (List.mem_append_left _ (List.mem_append_left _ (List.mem_of_getElem? (i := 10) rfl)))))))
theorem mX11_trueSum_0_6 : Cond.fieldLink RX11 389 "HissHorn$Parts" "law" "[I" ∈ wsX11_trueSum := (List.mem_cons_of_mem _ (List.mem_append_left _ (List.mem_append_left _ (List.mem_append_left _ (List.mem_append_left _ (List.mem_append_left _ (List.mem_of_getElem? (i := 11) rfl)))))))
def LX11_trueSum_0_4  : Nat → Int32 → Int32 → SX → Option (Int32 × SX)
  | 0, _, _, _ => none
  | n + 1, z1, z2, u => (if (u.1 8) ≤ z2 then (some (z1, u)) else (gd (inb z2 12) (gd (inb z2 12) ((fX8_ask_3 (u.2.1 24 z2.toNatClampNeg) u).bind fun q => match q with | (r3, u4) => ((fX11_shine (u.2.1 26 z2.toNatClampNeg) r3).bind fun r6 => (lt (z1 + r6) fun v9 => ((LX11_trueSum_0_4 n) v9 (z2 + 1) u4)))))))
def fX11_trueSum_0  (u : SX) : Option (Int32 × SX) := (LX11_trueSum_0_4  5000 0 0 u)
set_option maxHeartbeats 4000000 in
set_option maxRecDepth 100000 in
theorem wLX11_trueSum_0_4 {p : Program} {l : Launch} {e : Env} {s : State} {m : MethodId} {args : Array Value} {below : List Frame} {meth : Method} {c : Code} {D : va_G} {cy : Nat → ClassId} {ad st : Nat → Nat} (C : Cx RX11 cX11_trueSum 3 (some .int) wsX11_trueSum p s m args meth c) (hK : Ky D [(cy 0, .int), (cy 1, .long), (cy 2, .boolean), (cy 3, .byte), (cy 4, .object "HissHorn$Text")] st s) (hJ : JX ad st) {r : Int32} {u' : SX}   : ∀ (n : Nat) (z1 : Int32) (z2 : Int32) (u : SX) (H : Heap) (locs : List Loc) (ls : Array Slot), LX11_trueSum_0_4  n z1 z2 u = some (r, u') → va_P D vwCl (VX cy ad st u) H → va_S (Ax (AX ad) s.heap.size) s.heap H locs → lv_has ls 3 [(0, .ref (ad 0)), (1, .int z1), (2, .int z2)] → W p l e rmX11_trueSum_0 s m args below meth c H locs 0 0 (MQ below (Qi D (VX cy ad st) (AX ad) s.heap.size r u') args s 0 0 (Ax (AX ad) s.heap.size)) (F0 m 4 ls []) := by
  intro n
  induction n with
  | zero =>
    intro z1 z2 u H locs ls h
    exact absurd h (by intro q; cases q)
  | succ n ih =>
    intro z1 z2 u H locs ls h hP hS hl
    rw [LX11_trueSum_0_4] at h
    refine lv_iload_n C.1 C.2.1 dX11_trueSum_4 rfl (lv_at hl 2 rfl) ?_
    refine lv_aload_n C.1 C.2.1 dX11_trueSum_5 rfl (lv_at hl 0 rfl) ?_
    refine gX_0_parts C hX11_trueSum_0_X11 hK hP mX11_trueSum_0_1 dX11_trueSum_6 ?_
    refine gX_6_size C hX11_trueSum_0_X6 hK hP mX11_trueSum_0_3 dX11_trueSum_9 ?_
    refine lv_icmp_ge (tgt := 52) C.1 C.2.1 dX11_trueSum_12 (by decide) (fun c12 => ?_) (fun c12 => ?_)
    · rw [if_pos c12] at h
      refine lv_iload_n C.1 C.2.1 dX11_trueSum_52 rfl (lv_at hl 1 rfl) ?_
      cases h
      exact rt_i C hP hS dX11_trueSum_53
    · rw [if_neg c12] at h
      refine lv_iload_n C.1 C.2.1 dX11_trueSum_15 rfl (lv_at hl 1 rfl) ?_
      refine lv_aload_n C.1 C.2.1 dX11_trueSum_16 rfl (lv_at hl 0 rfl) ?_
      refine gX_0_parts C hX11_trueSum_0_X11 hK hP mX11_trueSum_0_1 dX11_trueSum_17 ?_
      refine gX_6_truly C hX11_trueSum_0_X6 hK hP mX11_trueSum_0_4 dX11_trueSum_20 ?_
      refine lv_iload_n C.1 C.2.1 dX11_trueSum_23 rfl (lv_at hl 2 rfl) ?_
      obtain ⟨hg1, h⟩ := gd_some h
      refine lX_26 C hK hP hg1 dX11_trueSum_24 ?_
      refine lv_aload_n C.1 C.2.1 dX11_trueSum_25 rfl (lv_at hl 0 rfl) ?_
      refine gX_0_laws C hX11_trueSum_0_X11 hK hP mX11_trueSum_0_5 dX11_trueSum_26 ?_
      refine lv_aload_n C.1 C.2.1 dX11_trueSum_29 rfl (lv_at hl 0 rfl) ?_
      refine gX_0_parts C hX11_trueSum_0_X11 hK hP mX11_trueSum_0_1 dX11_trueSum_30 ?_
      refine gX_6_law C hX11_trueSum_0_X6 hK hP mX11_trueSum_0_6 dX11_trueSum_33 ?_
      refine lv_iload_n C.1 C.2.1 dX11_trueSum_36 rfl (lv_at hl 2 rfl) ?_
      obtain ⟨hg2, h⟩ := gd_some h
      refine lX_24 C hK hP hg2 dX11_trueSum_37 ?_
      obtain ⟨⟨r3, u4⟩, hc5, h⟩ := bd_some h
      try dsimp only at h
      refine cg_i (As := [.int (u.2.1 24 z2.toNatClampNeg)]) (rest := [.int (u.2.1 26 z2.toNatClampNeg), .int z1]) (AX_ge hJ) C hK hP hS (metX8_ask_3 l D cy ad st hJ _ (u.2.1 24 z2.toNatClampNeg) hc5) (cwV 1 C.2.2.2.2.2.1 gX11_trueSum_X8_ask rfl rfl rfl (by decide +kernel) ⟨(Nat.le_of_ble_eq_true rfl), (Nat.le_of_ble_eq_true rfl)⟩) 3 8 rfl rfl rfl hl.1 rfl (Nat.le_of_ble_eq_true rfl) dX11_trueSum_38 ⟨Nat.zero_le _, Nat.zero_le _⟩ (fun H locs hP hS => ?_)
      obtain ⟨r6, hc8, h⟩ := bd_some h
      refine cs_i (As := [.int (u.2.1 26 z2.toNatClampNeg), .int r3]) (rest := [.int z1]) (AX_ge hJ) C hK hP hS (metX11_shine l D cy st _ (u.2.1 26 z2.toNatClampNeg) r3 hc8) (va_cwS 2 C.2.2.2.2.2.1 gX11_trueSum_X11_shine rfl rfl rfl (by decide +kernel) ⟨(Nat.le_of_ble_eq_true rfl), (Nat.le_of_ble_eq_true rfl)⟩) rfl hl.1 rfl (Nat.le_of_ble_eq_true rfl) dX11_trueSum_41 ⟨Nat.zero_le _, Nat.zero_le _⟩ (fun H locs hP hS => ?_)
      refine lv_iadd C.1 C.2.1 dX11_trueSum_44 ?_
      refine lv_topi (fun v9 hv10 => ?_)
      replace h := lt_e hv10 h
      try dsimp only at h
      refine lv_istore_n (lv' := [(1, .int v9), (0, .ref (ad 0)), (2, .int z2)]) C.1 C.2.1 dX11_trueSum_45 rfl hl (by decide) rfl (fun ls hl => ?_)
      replace hl := lv_sub (l' := [(0, .ref (ad 0)), (1, .int v9), (2, .int z2)]) hl [1, 0, 2] rfl
      refine lv_iinc (v := z2 + 1) (lv' := [(2, .int (z2 + 1)), (0, .ref (ad 0)), (1, .int v9)]) C.1 C.2.1 dX11_trueSum_46 hl (k := 2) rfl rfl (by decide) rfl (fun ls hl => ?_)
      replace hl := lv_sub (l' := [(0, .ref (ad 0)), (1, .int v9), (2, .int (z2 + 1))]) hl [1, 2, 0] rfl
      refine lv_goto (tgt := 4) C.1 C.2.1 dX11_trueSum_49 (by decide) ?_
      exact ih _ _ _ _ _ _ h hP hS hl
set_option maxHeartbeats 4000000 in
set_option maxRecDepth 100000 in
theorem wX11_trueSum_0 {p : Program} {l : Launch} {e : Env} {s : State} {m : MethodId} {args : Array Value} {below : List Frame} {meth : Method} {c : Code} {D : va_G} {cy : Nat → ClassId} {ad st : Nat → Nat} (C : Cx RX11 cX11_trueSum 3 (some .int) wsX11_trueSum p s m args meth c) (hK : Ky D [(cy 0, .int), (cy 1, .long), (cy 2, .boolean), (cy 3, .byte), (cy 4, .object "HissHorn$Text")] st s) (hJ : JX ad st)  {u : SX} {r : Int32} {u' : SX} {H : Heap} {locs : List Loc} {ls : Array Slot} (h : fX11_trueSum_0  u = some (r, u')) (hP : va_P D vwCl (VX cy ad st u) H) (hS : va_S (Ax (AX ad) s.heap.size) s.heap H locs) (hl : lv_has ls 3 [(0, .ref (ad 0))]) : W p l e rmX11_trueSum_0 s m args below meth c H locs 0 0 (MQ below (Qi D (VX cy ad st) (AX ad) s.heap.size r u') args s 0 0 (Ax (AX ad) s.heap.size)) (F0 m 0 ls []) := by
  unfold fX11_trueSum_0 at h
  refine lv_iconst (v := 0) C.1 C.2.1 dX11_trueSum_0 (by decide) ?_
  refine lv_istore_n (lv' := [(1, .int 0), (0, .ref (ad 0))]) C.1 C.2.1 dX11_trueSum_1 rfl hl (by decide) rfl (fun ls hl => ?_)
  replace hl := lv_sub (l' := [(0, .ref (ad 0)), (1, .int 0)]) hl [1, 0] rfl
  refine lv_iconst (v := 0) C.1 C.2.1 dX11_trueSum_2 (by decide) ?_
  refine lv_istore_n (lv' := [(2, .int 0), (0, .ref (ad 0)), (1, .int 0)]) C.1 C.2.1 dX11_trueSum_3 rfl hl (by decide) rfl (fun ls hl => ?_)
  replace hl := lv_sub (l' := [(0, .ref (ad 0)), (1, .int 0), (2, .int 0)]) hl [1, 2, 0] rfl
  exact wLX11_trueSum_0_4 C hK hJ  5000 _ _ _ _ _ _ h hP hS hl
theorem metX11_trueSum_0 (l : Launch) (D : va_G) (cy : Nat → ClassId) (ad st : Nat → Nat) (hJ : JX ad st) (sz : Nat)  {u : SX} {r : Int32} {u' : SX} (h : fX11_trueSum_0  u = some (r, u')) : Met l yX11_trueSum wsX11_trueSum rmX11_trueSum_0 (va_Pc [.ref (ad 0)] (Px D [(cy 0, .int), (cy 1, .long), (cy 2, .boolean), (cy 3, .byte), (cy 4, .object "HissHorn$Text")] st (VX cy ad st) sz u)) (Qi D (VX cy ad st) (AX ad) sz r u') 0 0 (Ax (AX ad) sz) := by
  refine Met.ofW (cc := cX11_trueSum) (maxL := 3) (ret := (some .int)) (by decide) rfl ?_
  intro p e s m args below meth c s₁ B hml hv
  obtain ⟨rfl, hsz, hP, hK⟩ := hv
  subst hsz
  have C : Cx RX11 cX11_trueSum 3 (some .int) wsX11_trueSum p s m _ meth c := ⟨B.exec, B.bytes, hml, B.returns, findClass_of_methodNamed B.named, atoms_spec (ws := wsX11_trueSum) B.pre, B.notSynchronized⟩
  have hl := lv_entry ([.ref (ad 0)]) (n := 3) (Nat.le_of_ble_eq_true rfl)
  rw [lg_entry_eq]
  exact wX11_trueSum_0 C hK hJ h hP va_S.rf hl

theorem zdX11_sum_0 : (and (and (and (and (and (zk cX11_sum 0 (.iload_n 1) 1) (zk cX11_sum 1 (.iconst 0) 1)) (and (zk cX11_sum 2 (.bipush 120) 2) (zk cX11_sum 4 (.invokestatic 107) 3))) (and (and (zk cX11_sum 7 (.ifCond .eq 17) 3) (zk cX11_sum 24 (.ldc 194) 2)) (zk cX11_sum 26 (.ireturn) 1))) (and (and (and (zk cX11_sum 10 (.iload_n 2) 1) (zk cX11_sum 11 (.iload_n 3) 1)) (and (zk cX11_sum 12 (.iload 4) 2) (zk cX11_sum 14 (.iload 5) 2))) (and (and (zk cX11_sum 16 (.iload 6) 2) (zk cX11_sum 18 (.invokestatic 150) 3)) (zk cX11_sum 21 (.ifCond .ne 6) 3)))) (and (and (and (and (zk cX11_sum 27 (.aload_n 0) 1) (zk cX11_sum 28 (.getfield 32) 3)) (and (zk cX11_sum 31 (.iload_n 2) 1) (zk cX11_sum 32 (.iload_n 3) 1))) (and (and (zk cX11_sum 33 (.iload 4) 2) (zk cX11_sum 35 (.iload_n 1) 1)) (zk cX11_sum 36 (.invokestatic 195) 3))) (and (and (and (zk cX11_sum 39 (.iload 5) 2) (zk cX11_sum 41 (.iload 6) 2)) (zk cX11_sum 43 (.invokevirtual 157) 3)) (and (and (zk cX11_sum 46 (.aload_n 0) 1) (zk cX11_sum 47 (.invokevirtual 198) 3)) (zk cX11_sum 50 (.ireturn) 1))))) = true := by decide +kernel
theorem dX11_sum_0 : decode cX11_sum 0 = .ok (.iload_n 1, 1) := zk_of (zk_l (zk_l (zk_l (zk_l (zk_l zdX11_sum_0)))))
theorem dX11_sum_1 : decode cX11_sum 1 = .ok (.iconst 0, 1) := zk_of (zk_r (zk_l (zk_l (zk_l (zk_l zdX11_sum_0)))))
theorem dX11_sum_2 : decode cX11_sum 2 = .ok (.bipush 120, 2) := zk_of (zk_l (zk_r (zk_l (zk_l (zk_l zdX11_sum_0)))))
theorem dX11_sum_4 : decode cX11_sum 4 = .ok (.invokestatic 107, 3) := zk_of (zk_r (zk_r (zk_l (zk_l (zk_l zdX11_sum_0)))))
theorem dX11_sum_7 : decode cX11_sum 7 = .ok (.ifCond .eq 17, 3) := zk_of (zk_l (zk_l (zk_r (zk_l (zk_l zdX11_sum_0)))))
theorem dX11_sum_24 : decode cX11_sum 24 = .ok (.ldc 194, 2) := zk_of (zk_r (zk_l (zk_r (zk_l (zk_l zdX11_sum_0)))))
theorem dX11_sum_26 : decode cX11_sum 26 = .ok (.ireturn, 1) := zk_of (zk_r (zk_r (zk_l (zk_l zdX11_sum_0))))
theorem dX11_sum_10 : decode cX11_sum 10 = .ok (.iload_n 2, 1) := zk_of (zk_l (zk_l (zk_l (zk_r (zk_l zdX11_sum_0)))))
theorem dX11_sum_11 : decode cX11_sum 11 = .ok (.iload_n 3, 1) := zk_of (zk_r (zk_l (zk_l (zk_r (zk_l zdX11_sum_0)))))
theorem dX11_sum_12 : decode cX11_sum 12 = .ok (.iload 4, 2) := zk_of (zk_l (zk_r (zk_l (zk_r (zk_l zdX11_sum_0)))))
theorem dX11_sum_14 : decode cX11_sum 14 = .ok (.iload 5, 2) := zk_of (zk_r (zk_r (zk_l (zk_r (zk_l zdX11_sum_0)))))
theorem dX11_sum_16 : decode cX11_sum 16 = .ok (.iload 6, 2) := zk_of (zk_l (zk_l (zk_r (zk_r (zk_l zdX11_sum_0)))))
theorem dX11_sum_18 : decode cX11_sum 18 = .ok (.invokestatic 150, 3) := zk_of (zk_r (zk_l (zk_r (zk_r (zk_l zdX11_sum_0)))))
theorem dX11_sum_21 : decode cX11_sum 21 = .ok (.ifCond .ne 6, 3) := zk_of (zk_r (zk_r (zk_r (zk_l zdX11_sum_0))))
theorem dX11_sum_27 : decode cX11_sum 27 = .ok (.aload_n 0, 1) := zk_of (zk_l (zk_l (zk_l (zk_l (zk_r zdX11_sum_0)))))
theorem dX11_sum_28 : decode cX11_sum 28 = .ok (.getfield 32, 3) := zk_of (zk_r (zk_l (zk_l (zk_l (zk_r zdX11_sum_0)))))
theorem dX11_sum_31 : decode cX11_sum 31 = .ok (.iload_n 2, 1) := zk_of (zk_l (zk_r (zk_l (zk_l (zk_r zdX11_sum_0)))))
theorem dX11_sum_32 : decode cX11_sum 32 = .ok (.iload_n 3, 1) := zk_of (zk_r (zk_r (zk_l (zk_l (zk_r zdX11_sum_0)))))
theorem dX11_sum_33 : decode cX11_sum 33 = .ok (.iload 4, 2) := zk_of (zk_l (zk_l (zk_r (zk_l (zk_r zdX11_sum_0)))))
theorem dX11_sum_35 : decode cX11_sum 35 = .ok (.iload_n 1, 1) := zk_of (zk_r (zk_l (zk_r (zk_l (zk_r zdX11_sum_0)))))
theorem dX11_sum_36 : decode cX11_sum 36 = .ok (.invokestatic 195, 3) := zk_of (zk_r (zk_r (zk_l (zk_r zdX11_sum_0))))
theorem dX11_sum_39 : decode cX11_sum 39 = .ok (.iload 5, 2) := zk_of (zk_l (zk_l (zk_l (zk_r (zk_r zdX11_sum_0)))))
theorem dX11_sum_41 : decode cX11_sum 41 = .ok (.iload 6, 2) := zk_of (zk_r (zk_l (zk_l (zk_r (zk_r zdX11_sum_0)))))
theorem dX11_sum_43 : decode cX11_sum 43 = .ok (.invokevirtual 157, 3) := zk_of (zk_r (zk_l (zk_r (zk_r zdX11_sum_0))))
theorem dX11_sum_46 : decode cX11_sum 46 = .ok (.aload_n 0, 1) := zk_of (zk_l (zk_l (zk_r (zk_r (zk_r zdX11_sum_0)))))
theorem dX11_sum_47 : decode cX11_sum 47 = .ok (.invokevirtual 198, 3) := zk_of (zk_r (zk_l (zk_r (zk_r (zk_r zdX11_sum_0)))))
theorem dX11_sum_50 : decode cX11_sum 50 = .ok (.ireturn, 1) := zk_of (zk_r (zk_r (zk_r (zk_r zdX11_sum_0))))
set_option maxRecDepth 20000 in
theorem ggX11_sum_X11_within : GoodIn wsX11_sum wsX11_within := ggi (fun w h => List.mem_cons_of_mem _ (List.mem_append_left _ (List.mem_append_left _ (List.mem_append_left _ (List.mem_append_left _ (List.mem_append_right _ (List.mem_append_left _ h))))))) gs_X11_within
set_option maxRecDepth 20000 in
theorem gX11_sum_X11_within : GoodIn wsX11_sum (va_wsS RX11 107 yX11_within wsX11_within) := goodIn_app (goodIn_of _ (by decide +kernel)) ggX11_sum_X11_within
set_option maxRecDepth 20000 in
theorem ggX11_sum_X11_isAim : GoodIn wsX11_sum wsX11_isAim := ggi (fun w h => List.mem_cons_of_mem _ (List.mem_append_left _ (List.mem_append_left _ (List.mem_append_left _ (List.mem_append_left _ (List.mem_append_right _ (List.mem_append_right _ (List.mem_append_left _ h)))))))) gs_X11_isAim
set_option maxRecDepth 20000 in
theorem gX11_sum_X11_isAim : GoodIn wsX11_sum (va_wsS RX11 150 yX11_isAim wsX11_isAim) := goodIn_app (goodIn_of _ (by decide +kernel)) ggX11_sum_X11_isAim
set_option maxRecDepth 20000 in
theorem ggX11_sum_X11_seasonOf : GoodIn wsX11_sum wsX11_seasonOf := ggi (fun w h => List.mem_cons_of_mem _ (List.mem_append_left _ (List.mem_append_left _ (List.mem_append_left _ (List.mem_append_left _ (List.mem_append_right _ (List.mem_append_right _ (List.mem_append_right _ (List.mem_append_left _ h))))))))) gs_X11_seasonOf
set_option maxRecDepth 20000 in
theorem gX11_sum_X11_seasonOf : GoodIn wsX11_sum (va_wsS RX11 195 yX11_seasonOf wsX11_seasonOf) := goodIn_app (goodIn_of _ (by decide +kernel)) ggX11_sum_X11_seasonOf
set_option maxRecDepth 20000 in
theorem ggX11_sum_X8_setAim : GoodIn wsX11_sum wsX8_setAim := ggi (fun w h => List.mem_cons_of_mem _ (List.mem_append_left _ (List.mem_append_left _ (List.mem_append_left _ (List.mem_append_left _ (List.mem_append_right _ (List.mem_append_right _ (List.mem_append_right _ (List.mem_append_right _ (List.mem_append_left _ h)))))))))) gs_X8_setAim
set_option maxRecDepth 20000 in
theorem gX11_sum_X8_setAim : GoodIn wsX11_sum (wsV RX11 157 RX8 yX8_setAim wsX8_setAim) := goodIn_app (goodIn_of _ (by decide +kernel)) ggX11_sum_X8_setAim
set_option maxRecDepth 20000 in
theorem ggX11_sum_X11_trueSum : GoodIn wsX11_sum wsX11_trueSum := ggi (fun w h => List.mem_cons_of_mem _ (List.mem_append_left _ (List.mem_append_left _ (List.mem_append_left _ (List.mem_append_left _ (List.mem_append_right _ (List.mem_append_right _ (List.mem_append_right _ (List.mem_append_right _ (List.mem_append_right _ h)))))))))) gs_X11_trueSum
set_option maxRecDepth 20000 in
theorem gX11_sum_X11_trueSum : GoodIn wsX11_sum (wsV RX11 198 RX11 yX11_trueSum wsX11_trueSum) := goodIn_app (goodIn_of _ (by decide +kernel)) ggX11_sum_X11_trueSum
/-- HissHorn.sum(IIIIII)I of cell 0 -/
def rmX11_sum_0 : Room := { frames := 5, cells := 0, slots := 0, locals := 109 }
theorem mX11_sum_0_0 : Cond.constant RX11 194 (-100000000) ∈ wsX11_sum := (List.mem_cons_of_mem _ (List.mem_append_left _ (List.mem_append_left _ (List.mem_append_left _ (List.mem_append_left _ (List.mem_append_left _ (List.mem_of_getElem? (i := 14) rfl)))))))
theorem hX11_sum_0_X11 : ∀ w ∈ u_ws RX11 TX11 13, w ∈ wsX11_sum := fun w h => (List.mem_cons_of_mem _ (List.mem_append_left _ (List.mem_append_left _ (List.mem_append_left _ (List.mem_append_right _ h)))))
theorem mX11_sum_0_2 : Cond.fieldLink RX11 32 "HissHorn" "laws" "LHissHorn$Shelf;" ∈ wsX11_sum := (List.mem_cons_of_mem _ (List.mem_append_left _ (List.mem_append_left _ (List.mem_append_left _ (List.mem_append_left _ (List.mem_append_left _ (List.mem_of_getElem? (i := 15) rfl)))))))
def fX11_sum_0 (x1 : Int32) (x2 : Int32) (x3 : Int32) (x4 : Int32) (x5 : Int32) (x6 : Int32) (u : SX) : Option (Int32 × SX) := ((fX11_within x1 0 120).bind fun r1 => (if r1 = 0 then (some ((-100000000), u)) else ((fX11_isAim x2 x3 x4 x5 x6).bind fun r4 => (if r4 = 0 then (some ((-100000000), u)) else ((fX11_seasonOf x1).bind fun r7 => ((fX8_setAim_3 x2 x3 x4 r7 x5 x6 u).bind fun q => match q with | (r10, u11) => ((fX11_trueSum_0  u11).bind fun q => match q with | (r13, u14) => (some (r13, u14)))))))))
set_option maxHeartbeats 4000000 in
set_option maxRecDepth 100000 in
theorem wX11_sum_0 {p : Program} {l : Launch} {e : Env} {s : State} {m : MethodId} {args : Array Value} {below : List Frame} {meth : Method} {c : Code} {D : va_G} {cy : Nat → ClassId} {ad st : Nat → Nat} (C : Cx RX11 cX11_sum 7 (some .int) wsX11_sum p s m args meth c) (hK : Ky D [(cy 0, .int), (cy 1, .long), (cy 2, .boolean), (cy 3, .byte), (cy 4, .object "HissHorn$Text")] st s) (hJ : JX ad st) (x1 : Int32) (x2 : Int32) (x3 : Int32) (x4 : Int32) (x5 : Int32) (x6 : Int32) {u : SX} {r : Int32} {u' : SX} {H : Heap} {locs : List Loc} {ls : Array Slot} (h : fX11_sum_0 x1 x2 x3 x4 x5 x6 u = some (r, u')) (hP : va_P D vwCl (VX cy ad st u) H) (hS : va_S (Ax (AX ad) s.heap.size) s.heap H locs) (hl : lv_has ls 7 [(0, .ref (ad 0)), (1, .int x1), (2, .int x2), (3, .int x3), (4, .int x4), (5, .int x5), (6, .int x6)]) : W p l e rmX11_sum_0 s m args below meth c H locs 0 0 (MQ below (Qi D (VX cy ad st) (AX ad) s.heap.size r u') args s 0 0 (Ax (AX ad) s.heap.size)) (F0 m 0 ls []) := by
  unfold fX11_sum_0 at h
  refine lv_iload_n C.1 C.2.1 dX11_sum_0 rfl (lv_at hl 1 rfl) ?_
  refine lv_iconst (v := 0) C.1 C.2.1 dX11_sum_1 (by decide) ?_
  refine lv_bipush (v := 120) C.1 C.2.1 dX11_sum_2 (by decide) ?_
  obtain ⟨r1, hc3, h⟩ := bd_some h
  refine cs_i (As := [.int x1, .int 0, .int 120]) (rest := []) (AX_ge hJ) C hK hP hS (metX11_within l D cy st _ x1 0 120 hc3) (va_cwS 3 C.2.2.2.2.2.1 gX11_sum_X11_within rfl rfl rfl (by decide +kernel) ⟨(Nat.le_of_ble_eq_true rfl), (Nat.le_of_ble_eq_true rfl)⟩) rfl hl.1 rfl (Nat.le_of_ble_eq_true rfl) dX11_sum_4 ⟨Nat.zero_le _, Nat.zero_le _⟩ (fun H locs hP hS => ?_)
  refine lv_if_eq (tgt := 24) C.1 C.2.1 dX11_sum_7 (by decide) (fun c7 => ?_) (fun c7 => ?_)
  · rw [if_pos c7] at h
    refine lv_ldc C.1 C.2.1 C.2.2.2.2.1 (C.2.2.2.2.2.1 _ mX11_sum_0_0) dX11_sum_24 ?_
    cases h
    exact rt_i C hP hS dX11_sum_26
  · rw [if_neg c7] at h
    refine lv_iload_n C.1 C.2.1 dX11_sum_10 rfl (lv_at hl 2 rfl) ?_
    refine lv_iload_n C.1 C.2.1 dX11_sum_11 rfl (lv_at hl 3 rfl) ?_
    refine lv_iload C.1 C.2.1 dX11_sum_12 (lv_at hl 4 rfl) ?_
    refine lv_iload C.1 C.2.1 dX11_sum_14 (lv_at hl 5 rfl) ?_
    refine lv_iload C.1 C.2.1 dX11_sum_16 (lv_at hl 6 rfl) ?_
    obtain ⟨r4, hc6, h⟩ := bd_some h
    refine cs_i (As := [.int x2, .int x3, .int x4, .int x5, .int x6]) (rest := []) (AX_ge hJ) C hK hP hS (metX11_isAim l D cy st _ x2 x3 x4 x5 x6 hc6) (va_cwS 5 C.2.2.2.2.2.1 gX11_sum_X11_isAim rfl rfl rfl (by decide +kernel) ⟨(Nat.le_of_ble_eq_true rfl), (Nat.le_of_ble_eq_true rfl)⟩) rfl hl.1 rfl (Nat.le_of_ble_eq_true rfl) dX11_sum_18 ⟨Nat.zero_le _, Nat.zero_le _⟩ (fun H locs hP hS => ?_)
    refine lv_if_ne (tgt := 27) C.1 C.2.1 dX11_sum_21 (by decide) (fun c21 => ?_) (fun c21 => ?_)
    · rw [if_neg c21] at h
      refine lv_aload_n C.1 C.2.1 dX11_sum_27 rfl (lv_at hl 0 rfl) ?_
      refine gX_0_laws C hX11_sum_0_X11 hK hP mX11_sum_0_2 dX11_sum_28 ?_
      refine lv_iload_n C.1 C.2.1 dX11_sum_31 rfl (lv_at hl 2 rfl) ?_
      refine lv_iload_n C.1 C.2.1 dX11_sum_32 rfl (lv_at hl 3 rfl) ?_
      refine lv_iload C.1 C.2.1 dX11_sum_33 (lv_at hl 4 rfl) ?_
      refine lv_iload_n C.1 C.2.1 dX11_sum_35 rfl (lv_at hl 1 rfl) ?_
      obtain ⟨r7, hc9, h⟩ := bd_some h
      refine cs_i (As := [.int x1]) (rest := [.int x4, .int x3, .int x2, .ref (ad 3)]) (AX_ge hJ) C hK hP hS (metX11_seasonOf l D cy st _ x1 hc9) (va_cwS 1 C.2.2.2.2.2.1 gX11_sum_X11_seasonOf rfl rfl rfl (by decide +kernel) ⟨(Nat.le_of_ble_eq_true rfl), (Nat.le_of_ble_eq_true rfl)⟩) rfl hl.1 rfl (Nat.le_of_ble_eq_true rfl) dX11_sum_36 ⟨Nat.zero_le _, Nat.zero_le _⟩ (fun H locs hP hS => ?_)
      refine lv_iload C.1 C.2.1 dX11_sum_39 (lv_at hl 5 rfl) ?_
      refine lv_iload C.1 C.2.1 dX11_sum_41 (lv_at hl 6 rfl) ?_
      obtain ⟨⟨r10, u11⟩, hc12, h⟩ := bd_some h
      try dsimp only at h
      refine cg_v (As := [.int x2, .int x3, .int x4, .int r7, .int x5, .int x6]) (rest := []) (AX_ge hJ) C hK hP hS (metX8_setAim_3 l D cy ad st hJ _ x2 x3 x4 r7 x5 x6 hc12) (cwV 6 C.2.2.2.2.2.1 gX11_sum_X8_setAim rfl rfl rfl (by decide +kernel) ⟨(Nat.le_of_ble_eq_true rfl), (Nat.le_of_ble_eq_true rfl)⟩) 3 8 rfl rfl rfl hl.1 rfl (Nat.le_of_ble_eq_true rfl) dX11_sum_43 ⟨Nat.zero_le _, Nat.zero_le _⟩ (fun H locs hP hS => ?_)
      refine lv_aload_n C.1 C.2.1 dX11_sum_46 rfl (lv_at hl 0 rfl) ?_
      obtain ⟨⟨r13, u14⟩, hc15, h⟩ := bd_some h
      try dsimp only at h
      refine cg_i (As := []) (rest := []) (AX_ge hJ) C hK hP hS (metX11_trueSum_0 l D cy ad st hJ _  hc15) (cwV 0 C.2.2.2.2.2.1 gX11_sum_X11_trueSum rfl rfl rfl (by decide +kernel) ⟨(Nat.le_of_ble_eq_true rfl), (Nat.le_of_ble_eq_true rfl)⟩) 0 11 rfl rfl rfl hl.1 rfl (Nat.le_of_ble_eq_true rfl) dX11_sum_47 ⟨Nat.zero_le _, Nat.zero_le _⟩ (fun H locs hP hS => ?_)
      cases h
      exact rt_i C hP hS dX11_sum_50
    · rw [if_pos c21] at h
      refine lv_ldc C.1 C.2.1 C.2.2.2.2.1 (C.2.2.2.2.2.1 _ mX11_sum_0_0) dX11_sum_24 ?_
      cases h
      exact rt_i C hP hS dX11_sum_26
theorem metX11_sum_0 (l : Launch) (D : va_G) (cy : Nat → ClassId) (ad st : Nat → Nat) (hJ : JX ad st) (sz : Nat) (x1 : Int32) (x2 : Int32) (x3 : Int32) (x4 : Int32) (x5 : Int32) (x6 : Int32) {u : SX} {r : Int32} {u' : SX} (h : fX11_sum_0 x1 x2 x3 x4 x5 x6 u = some (r, u')) : Met l yX11_sum wsX11_sum rmX11_sum_0 (va_Pc [.ref (ad 0), .int x1, .int x2, .int x3, .int x4, .int x5, .int x6] (Px D [(cy 0, .int), (cy 1, .long), (cy 2, .boolean), (cy 3, .byte), (cy 4, .object "HissHorn$Text")] st (VX cy ad st) sz u)) (Qi D (VX cy ad st) (AX ad) sz r u') 0 0 (Ax (AX ad) sz) := by
  refine Met.ofW (cc := cX11_sum) (maxL := 7) (ret := (some .int)) (by decide) rfl ?_
  intro p e s m args below meth c s₁ B hml hv
  obtain ⟨rfl, hsz, hP, hK⟩ := hv
  subst hsz
  have C : Cx RX11 cX11_sum 7 (some .int) wsX11_sum p s m _ meth c := ⟨B.exec, B.bytes, hml, B.returns, findClass_of_methodNamed B.named, atoms_spec (ws := wsX11_sum) B.pre, B.notSynchronized⟩
  have hl := lv_entry ([.ref (ad 0), .int x1, .int x2, .int x3, .int x4, .int x5, .int x6]) (n := 7) (Nat.le_of_ble_eq_true rfl)
  rw [lg_entry_eq]
  exact wX11_sum_0 C hK hJ x1 x2 x3 x4 x5 x6 h hP va_S.rf hl

theorem zdX11_heard_0 : (and (and (and (and (and (zk cX11_heard 0 (.iload_n 1) 1) (zk cX11_heard 1 (.iload_n 2) 1)) (and (zk cX11_heard 2 (.iload_n 3) 1) (zk cX11_heard 3 (.iload 4) 2))) (and (and (zk cX11_heard 5 (.iload 5) 2) (zk cX11_heard 7 (.invokestatic 150) 3)) (and (zk cX11_heard 10 (.ifCond .eq 14) 3) (zk cX11_heard 24 (.ldc 194) 2)))) (and (and (and (zk cX11_heard 26 (.ireturn) 1) (zk cX11_heard 13 (.iload 6) 2)) (and (zk cX11_heard 15 (.iconst 0) 1) (zk cX11_heard 16 (.bipush 50) 2))) (and (and (zk cX11_heard 18 (.invokestatic 107) 3) (zk cX11_heard 21 (.ifCond .ne 6) 3)) (and (zk cX11_heard 27 (.aload_n 0) 1) (zk cX11_heard 28 (.getfield 32) 3))))) (and (and (and (and (zk cX11_heard 31 (.iload_n 1) 1) (zk cX11_heard 32 (.iload_n 2) 1)) (and (zk cX11_heard 33 (.iload_n 3) 1) (zk cX11_heard 34 (.aload_n 0) 1))) (and (and (zk cX11_heard 35 (.getfield 103) 3) (zk cX11_heard 38 (.invokestatic 195) 3)) (and (zk cX11_heard 41 (.iload 4) 2) (zk cX11_heard 43 (.iload 5) 2)))) (and (and (and (zk cX11_heard 45 (.invokevirtual 157) 3) (zk cX11_heard 48 (.lload 7) 2)) (and (zk cX11_heard 50 (.ldc2_w 202) 3) (zk cX11_heard 53 (.lmul) 1))) (and (and (zk cX11_heard 54 (.ldc2_w 204) 3) (zk cX11_heard 57 (.ladd) 1)) (and (zk cX11_heard 58 (.bipush 33) 2) (zk cX11_heard 60 (.lushr) 1)))))) = true := by decide +kernel
theorem dX11_heard_0 : decode cX11_heard 0 = .ok (.iload_n 1, 1) := zk_of (zk_l (zk_l (zk_l (zk_l (zk_l zdX11_heard_0)))))
theorem dX11_heard_1 : decode cX11_heard 1 = .ok (.iload_n 2, 1) := zk_of (zk_r (zk_l (zk_l (zk_l (zk_l zdX11_heard_0)))))
theorem dX11_heard_2 : decode cX11_heard 2 = .ok (.iload_n 3, 1) := zk_of (zk_l (zk_r (zk_l (zk_l (zk_l zdX11_heard_0)))))
theorem dX11_heard_3 : decode cX11_heard 3 = .ok (.iload 4, 2) := zk_of (zk_r (zk_r (zk_l (zk_l (zk_l zdX11_heard_0)))))
theorem dX11_heard_5 : decode cX11_heard 5 = .ok (.iload 5, 2) := zk_of (zk_l (zk_l (zk_r (zk_l (zk_l zdX11_heard_0)))))
theorem dX11_heard_7 : decode cX11_heard 7 = .ok (.invokestatic 150, 3) := zk_of (zk_r (zk_l (zk_r (zk_l (zk_l zdX11_heard_0)))))
theorem dX11_heard_10 : decode cX11_heard 10 = .ok (.ifCond .eq 14, 3) := zk_of (zk_l (zk_r (zk_r (zk_l (zk_l zdX11_heard_0)))))
theorem dX11_heard_24 : decode cX11_heard 24 = .ok (.ldc 194, 2) := zk_of (zk_r (zk_r (zk_r (zk_l (zk_l zdX11_heard_0)))))
theorem dX11_heard_26 : decode cX11_heard 26 = .ok (.ireturn, 1) := zk_of (zk_l (zk_l (zk_l (zk_r (zk_l zdX11_heard_0)))))
theorem dX11_heard_13 : decode cX11_heard 13 = .ok (.iload 6, 2) := zk_of (zk_r (zk_l (zk_l (zk_r (zk_l zdX11_heard_0)))))
theorem dX11_heard_15 : decode cX11_heard 15 = .ok (.iconst 0, 1) := zk_of (zk_l (zk_r (zk_l (zk_r (zk_l zdX11_heard_0)))))
theorem dX11_heard_16 : decode cX11_heard 16 = .ok (.bipush 50, 2) := zk_of (zk_r (zk_r (zk_l (zk_r (zk_l zdX11_heard_0)))))
theorem dX11_heard_18 : decode cX11_heard 18 = .ok (.invokestatic 107, 3) := zk_of (zk_l (zk_l (zk_r (zk_r (zk_l zdX11_heard_0)))))
theorem dX11_heard_21 : decode cX11_heard 21 = .ok (.ifCond .ne 6, 3) := zk_of (zk_r (zk_l (zk_r (zk_r (zk_l zdX11_heard_0)))))
theorem dX11_heard_27 : decode cX11_heard 27 = .ok (.aload_n 0, 1) := zk_of (zk_l (zk_r (zk_r (zk_r (zk_l zdX11_heard_0)))))
theorem dX11_heard_28 : decode cX11_heard 28 = .ok (.getfield 32, 3) := zk_of (zk_r (zk_r (zk_r (zk_r (zk_l zdX11_heard_0)))))
theorem dX11_heard_31 : decode cX11_heard 31 = .ok (.iload_n 1, 1) := zk_of (zk_l (zk_l (zk_l (zk_l (zk_r zdX11_heard_0)))))
theorem dX11_heard_32 : decode cX11_heard 32 = .ok (.iload_n 2, 1) := zk_of (zk_r (zk_l (zk_l (zk_l (zk_r zdX11_heard_0)))))
theorem dX11_heard_33 : decode cX11_heard 33 = .ok (.iload_n 3, 1) := zk_of (zk_l (zk_r (zk_l (zk_l (zk_r zdX11_heard_0)))))
theorem dX11_heard_34 : decode cX11_heard 34 = .ok (.aload_n 0, 1) := zk_of (zk_r (zk_r (zk_l (zk_l (zk_r zdX11_heard_0)))))
theorem dX11_heard_35 : decode cX11_heard 35 = .ok (.getfield 103, 3) := zk_of (zk_l (zk_l (zk_r (zk_l (zk_r zdX11_heard_0)))))
theorem dX11_heard_38 : decode cX11_heard 38 = .ok (.invokestatic 195, 3) := zk_of (zk_r (zk_l (zk_r (zk_l (zk_r zdX11_heard_0)))))
theorem dX11_heard_41 : decode cX11_heard 41 = .ok (.iload 4, 2) := zk_of (zk_l (zk_r (zk_r (zk_l (zk_r zdX11_heard_0)))))
theorem dX11_heard_43 : decode cX11_heard 43 = .ok (.iload 5, 2) := zk_of (zk_r (zk_r (zk_r (zk_l (zk_r zdX11_heard_0)))))
theorem dX11_heard_45 : decode cX11_heard 45 = .ok (.invokevirtual 157, 3) := zk_of (zk_l (zk_l (zk_l (zk_r (zk_r zdX11_heard_0)))))
theorem dX11_heard_48 : decode cX11_heard 48 = .ok (.lload 7, 2) := zk_of (zk_r (zk_l (zk_l (zk_r (zk_r zdX11_heard_0)))))
theorem dX11_heard_50 : decode cX11_heard 50 = .ok (.ldc2_w 202, 3) := zk_of (zk_l (zk_r (zk_l (zk_r (zk_r zdX11_heard_0)))))
theorem dX11_heard_53 : decode cX11_heard 53 = .ok (.lmul, 1) := zk_of (zk_r (zk_r (zk_l (zk_r (zk_r zdX11_heard_0)))))
theorem dX11_heard_54 : decode cX11_heard 54 = .ok (.ldc2_w 204, 3) := zk_of (zk_l (zk_l (zk_r (zk_r (zk_r zdX11_heard_0)))))
theorem dX11_heard_57 : decode cX11_heard 57 = .ok (.ladd, 1) := zk_of (zk_r (zk_l (zk_r (zk_r (zk_r zdX11_heard_0)))))
theorem dX11_heard_58 : decode cX11_heard 58 = .ok (.bipush 33, 2) := zk_of (zk_l (zk_r (zk_r (zk_r (zk_r zdX11_heard_0)))))
theorem dX11_heard_60 : decode cX11_heard 60 = .ok (.lushr, 1) := zk_of (zk_r (zk_r (zk_r (zk_r (zk_r zdX11_heard_0)))))
set_option maxRecDepth 20000 in
theorem ggX11_heard_X11_isAim : GoodIn wsX11_heard wsX11_isAim := ggi (fun w h => List.mem_cons_of_mem _ (List.mem_append_left _ (List.mem_append_left _ (List.mem_append_left _ (List.mem_append_left _ (List.mem_append_right _ (List.mem_append_left _ h))))))) gs_X11_isAim
set_option maxRecDepth 20000 in
theorem gX11_heard_X11_isAim : GoodIn wsX11_heard (va_wsS RX11 150 yX11_isAim wsX11_isAim) := goodIn_app (goodIn_of _ (by decide +kernel)) ggX11_heard_X11_isAim
set_option maxRecDepth 20000 in
theorem ggX11_heard_X11_within : GoodIn wsX11_heard wsX11_within := ggi (fun w h => List.mem_cons_of_mem _ (List.mem_append_left _ (List.mem_append_left _ (List.mem_append_left _ (List.mem_append_left _ (List.mem_append_right _ (List.mem_append_right _ (List.mem_append_left _ h)))))))) gs_X11_within
set_option maxRecDepth 20000 in
theorem gX11_heard_X11_within : GoodIn wsX11_heard (va_wsS RX11 107 yX11_within wsX11_within) := goodIn_app (goodIn_of _ (by decide +kernel)) ggX11_heard_X11_within
set_option maxRecDepth 20000 in
theorem ggX11_heard_X11_seasonOf : GoodIn wsX11_heard wsX11_seasonOf := ggi (fun w h => List.mem_cons_of_mem _ (List.mem_append_left _ (List.mem_append_left _ (List.mem_append_left _ (List.mem_append_left _ (List.mem_append_right _ (List.mem_append_right _ (List.mem_append_right _ (List.mem_append_left _ h))))))))) gs_X11_seasonOf
set_option maxRecDepth 20000 in
theorem gX11_heard_X11_seasonOf : GoodIn wsX11_heard (va_wsS RX11 195 yX11_seasonOf wsX11_seasonOf) := goodIn_app (goodIn_of _ (by decide +kernel)) ggX11_heard_X11_seasonOf
set_option maxRecDepth 20000 in
theorem ggX11_heard_X8_setAim : GoodIn wsX11_heard wsX8_setAim := ggi (fun w h => List.mem_cons_of_mem _ (List.mem_append_left _ (List.mem_append_left _ (List.mem_append_left _ (List.mem_append_left _ (List.mem_append_right _ (List.mem_append_right _ (List.mem_append_right _ (List.mem_append_right _ (List.mem_append_left _ h)))))))))) gs_X8_setAim
set_option maxRecDepth 20000 in
theorem gX11_heard_X8_setAim : GoodIn wsX11_heard (wsV RX11 157 RX8 yX8_setAim wsX8_setAim) := goodIn_app (goodIn_of _ (by decide +kernel)) ggX11_heard_X8_setAim
theorem zdX11_heard_61 : (and (and (and (and (zk cX11_heard 61 (.lstore 9) 2) (zk cX11_heard 63 (.aload_n 0) 1)) (and (zk cX11_heard 64 (.invokevirtual 198) 3) (zk cX11_heard 67 (.lload 9) 2))) (and (and (zk cX11_heard 69 (.iconst 2) 1) (zk cX11_heard 70 (.iload 6) 2)) (and (zk cX11_heard 72 (.imul) 1) (zk cX11_heard 73 (.iconst 1) 1)))) (and (and (and (zk cX11_heard 74 (.iadd) 1) (zk cX11_heard 75 (.i2l) 1)) (and (zk cX11_heard 76 (.lrem) 1) (zk cX11_heard 77 (.l2i) 1))) (and (and (zk cX11_heard 78 (.iadd) 1) (zk cX11_heard 79 (.iload 6) 2)) (and (zk cX11_heard 81 (.isub) 1) (zk cX11_heard 82 (.ireturn) 1))))) = true := by decide +kernel
theorem dX11_heard_61 : decode cX11_heard 61 = .ok (.lstore 9, 2) := zk_of (zk_l (zk_l (zk_l (zk_l zdX11_heard_61))))
theorem dX11_heard_63 : decode cX11_heard 63 = .ok (.aload_n 0, 1) := zk_of (zk_r (zk_l (zk_l (zk_l zdX11_heard_61))))
theorem dX11_heard_64 : decode cX11_heard 64 = .ok (.invokevirtual 198, 3) := zk_of (zk_l (zk_r (zk_l (zk_l zdX11_heard_61))))
theorem dX11_heard_67 : decode cX11_heard 67 = .ok (.lload 9, 2) := zk_of (zk_r (zk_r (zk_l (zk_l zdX11_heard_61))))
theorem dX11_heard_69 : decode cX11_heard 69 = .ok (.iconst 2, 1) := zk_of (zk_l (zk_l (zk_r (zk_l zdX11_heard_61))))
theorem dX11_heard_70 : decode cX11_heard 70 = .ok (.iload 6, 2) := zk_of (zk_r (zk_l (zk_r (zk_l zdX11_heard_61))))
theorem dX11_heard_72 : decode cX11_heard 72 = .ok (.imul, 1) := zk_of (zk_l (zk_r (zk_r (zk_l zdX11_heard_61))))
theorem dX11_heard_73 : decode cX11_heard 73 = .ok (.iconst 1, 1) := zk_of (zk_r (zk_r (zk_r (zk_l zdX11_heard_61))))
theorem dX11_heard_74 : decode cX11_heard 74 = .ok (.iadd, 1) := zk_of (zk_l (zk_l (zk_l (zk_r zdX11_heard_61))))
theorem dX11_heard_75 : decode cX11_heard 75 = .ok (.i2l, 1) := zk_of (zk_r (zk_l (zk_l (zk_r zdX11_heard_61))))
theorem dX11_heard_76 : decode cX11_heard 76 = .ok (.lrem, 1) := zk_of (zk_l (zk_r (zk_l (zk_r zdX11_heard_61))))
theorem dX11_heard_77 : decode cX11_heard 77 = .ok (.l2i, 1) := zk_of (zk_r (zk_r (zk_l (zk_r zdX11_heard_61))))
theorem dX11_heard_78 : decode cX11_heard 78 = .ok (.iadd, 1) := zk_of (zk_l (zk_l (zk_r (zk_r zdX11_heard_61))))
theorem dX11_heard_79 : decode cX11_heard 79 = .ok (.iload 6, 2) := zk_of (zk_r (zk_l (zk_r (zk_r zdX11_heard_61))))
theorem dX11_heard_81 : decode cX11_heard 81 = .ok (.isub, 1) := zk_of (zk_l (zk_r (zk_r (zk_r zdX11_heard_61))))
theorem dX11_heard_82 : decode cX11_heard 82 = .ok (.ireturn, 1) := zk_of (zk_r (zk_r (zk_r (zk_r zdX11_heard_61))))
set_option maxRecDepth 20000 in
theorem ggX11_heard_X11_trueSum : GoodIn wsX11_heard wsX11_trueSum := ggi (fun w h => List.mem_cons_of_mem _ (List.mem_append_left _ (List.mem_append_left _ (List.mem_append_left _ (List.mem_append_left _ (List.mem_append_right _ (List.mem_append_right _ (List.mem_append_right _ (List.mem_append_right _ (List.mem_append_right _ h)))))))))) gs_X11_trueSum
set_option maxRecDepth 20000 in
theorem gX11_heard_X11_trueSum : GoodIn wsX11_heard (wsV RX11 198 RX11 yX11_trueSum wsX11_trueSum) := goodIn_app (goodIn_of _ (by decide +kernel)) ggX11_heard_X11_trueSum
/-- HissHorn.heard(IIIIIIJ)I of cell 0 -/
def rmX11_heard_0 : Room := { frames := 5, cells := 0, slots := 0, locals := 109 }
theorem mX11_heard_0_0 : Cond.constant RX11 194 (-100000000) ∈ wsX11_heard := (List.mem_cons_of_mem _ (List.mem_append_left _ (List.mem_append_left _ (List.mem_append_left _ (List.mem_append_left _ (List.mem_append_left _ (List.mem_of_getElem? (i := 14) rfl)))))))
theorem hX11_heard_0_X11 : ∀ w ∈ u_ws RX11 TX11 13, w ∈ wsX11_heard := fun w h => (List.mem_cons_of_mem _ (List.mem_append_left _ (List.mem_append_left _ (List.mem_append_left _ (List.mem_append_right _ h)))))
theorem mX11_heard_0_2 : Cond.fieldLink RX11 32 "HissHorn" "laws" "LHissHorn$Shelf;" ∈ wsX11_heard := (List.mem_cons_of_mem _ (List.mem_append_left _ (List.mem_append_left _ (List.mem_append_left _ (List.mem_append_left _ (List.mem_append_left _ (List.mem_of_getElem? (i := 15) rfl)))))))
theorem mX11_heard_0_3 : Cond.fieldLink RX11 103 "HissHorn" "now" "I" ∈ wsX11_heard := (List.mem_cons_of_mem _ (List.mem_append_left _ (List.mem_append_left _ (List.mem_append_left _ (List.mem_append_left _ (List.mem_append_left _ (List.mem_of_getElem? (i := 16) rfl)))))))
theorem mX11_heard_0_4 : Cond.constantLong RX11 202 (6364136223846793005) ∈ wsX11_heard := (List.mem_cons_of_mem _ (List.mem_append_left _ (List.mem_append_left _ (List.mem_append_left _ (List.mem_append_left _ (List.mem_append_left _ (List.mem_of_getElem? (i := 17) rfl)))))))
theorem mX11_heard_0_5 : Cond.constantLong RX11 204 (1442695040888963407) ∈ wsX11_heard := (List.mem_cons_of_mem _ (List.mem_append_left _ (List.mem_append_left _ (List.mem_append_left _ (List.mem_append_left _ (List.mem_append_left _ (List.mem_of_getElem? (i := 18) rfl)))))))
def fX11_heard_0 (x1 : Int32) (x2 : Int32) (x3 : Int32) (x4 : Int32) (x5 : Int32) (x6 : Int32) (x7 : Int64) (u : SX) : Option (Int32 × SX) := ((fX11_isAim x1 x2 x3 x4 x5).bind fun r1 => (if r1 = 0 then (some ((-100000000), u)) else ((fX11_within x6 0 50).bind fun r4 => (if r4 = 0 then (some ((-100000000), u)) else ((fX11_seasonOf (u.1 0)).bind fun r7 => ((fX8_setAim_3 x1 x2 x3 r7 x4 x5 u).bind fun q => match q with | (r10, u11) => (lt ((((x7 * 6364136223846793005) + 1442695040888963407).toUInt64 >>> ((33 : Int32).toInt64.toUInt64 &&& Int64.toUInt64 63)).toInt64) fun v13 => ((fX11_trueSum_0  u11).bind fun q => match q with | (r15, u16) => (gd (nzL (((2 * x6) + 1).toInt64)) (some ((r15 + ((v13 - v13 / (((2 * x6) + 1).toInt64) * (((2 * x6) + 1).toInt64)).toInt32)) - x6, u16)))))))))))
set_option maxHeartbeats 4000000 in
set_option maxRecDepth 100000 in
theorem wX11_heard_0 {p : Program} {l : Launch} {e : Env} {s : State} {m : MethodId} {args : Array Value} {below : List Frame} {meth : Method} {c : Code} {D : va_G} {cy : Nat → ClassId} {ad st : Nat → Nat} (C : Cx RX11 cX11_heard 11 (some .int) wsX11_heard p s m args meth c) (hK : Ky D [(cy 0, .int), (cy 1, .long), (cy 2, .boolean), (cy 3, .byte), (cy 4, .object "HissHorn$Text")] st s) (hJ : JX ad st) (x1 : Int32) (x2 : Int32) (x3 : Int32) (x4 : Int32) (x5 : Int32) (x6 : Int32) (x7 : Int64) {u : SX} {r : Int32} {u' : SX} {H : Heap} {locs : List Loc} {ls : Array Slot} (h : fX11_heard_0 x1 x2 x3 x4 x5 x6 x7 u = some (r, u')) (hP : va_P D vwCl (VX cy ad st u) H) (hS : va_S (Ax (AX ad) s.heap.size) s.heap H locs) (hl : lv_has ls 11 [(0, .ref (ad 0)), (1, .int x1), (2, .int x2), (3, .int x3), (4, .int x4), (5, .int x5), (6, .int x6), (7, .long x7)]) : W p l e rmX11_heard_0 s m args below meth c H locs 0 0 (MQ below (Qi D (VX cy ad st) (AX ad) s.heap.size r u') args s 0 0 (Ax (AX ad) s.heap.size)) (F0 m 0 ls []) := by
  unfold fX11_heard_0 at h
  refine lv_iload_n C.1 C.2.1 dX11_heard_0 rfl (lv_at hl 1 rfl) ?_
  refine lv_iload_n C.1 C.2.1 dX11_heard_1 rfl (lv_at hl 2 rfl) ?_
  refine lv_iload_n C.1 C.2.1 dX11_heard_2 rfl (lv_at hl 3 rfl) ?_
  refine lv_iload C.1 C.2.1 dX11_heard_3 (lv_at hl 4 rfl) ?_
  refine lv_iload C.1 C.2.1 dX11_heard_5 (lv_at hl 5 rfl) ?_
  obtain ⟨r1, hc3, h⟩ := bd_some h
  refine cs_i (As := [.int x1, .int x2, .int x3, .int x4, .int x5]) (rest := []) (AX_ge hJ) C hK hP hS (metX11_isAim l D cy st _ x1 x2 x3 x4 x5 hc3) (va_cwS 5 C.2.2.2.2.2.1 gX11_heard_X11_isAim rfl rfl rfl (by decide +kernel) ⟨(Nat.le_of_ble_eq_true rfl), (Nat.le_of_ble_eq_true rfl)⟩) rfl hl.1 rfl (Nat.le_of_ble_eq_true rfl) dX11_heard_7 ⟨Nat.zero_le _, Nat.zero_le _⟩ (fun H locs hP hS => ?_)
  refine lv_if_eq (tgt := 24) C.1 C.2.1 dX11_heard_10 (by decide) (fun c10 => ?_) (fun c10 => ?_)
  · rw [if_pos c10] at h
    refine lv_ldc C.1 C.2.1 C.2.2.2.2.1 (C.2.2.2.2.2.1 _ mX11_heard_0_0) dX11_heard_24 ?_
    cases h
    exact rt_i C hP hS dX11_heard_26
  · rw [if_neg c10] at h
    refine lv_iload C.1 C.2.1 dX11_heard_13 (lv_at hl 6 rfl) ?_
    refine lv_iconst (v := 0) C.1 C.2.1 dX11_heard_15 (by decide) ?_
    refine lv_bipush (v := 50) C.1 C.2.1 dX11_heard_16 (by decide) ?_
    obtain ⟨r4, hc6, h⟩ := bd_some h
    refine cs_i (As := [.int x6, .int 0, .int 50]) (rest := []) (AX_ge hJ) C hK hP hS (metX11_within l D cy st _ x6 0 50 hc6) (va_cwS 3 C.2.2.2.2.2.1 gX11_heard_X11_within rfl rfl rfl (by decide +kernel) ⟨(Nat.le_of_ble_eq_true rfl), (Nat.le_of_ble_eq_true rfl)⟩) rfl hl.1 rfl (Nat.le_of_ble_eq_true rfl) dX11_heard_18 ⟨Nat.zero_le _, Nat.zero_le _⟩ (fun H locs hP hS => ?_)
    refine lv_if_ne (tgt := 27) C.1 C.2.1 dX11_heard_21 (by decide) (fun c21 => ?_) (fun c21 => ?_)
    · rw [if_neg c21] at h
      refine lv_aload_n C.1 C.2.1 dX11_heard_27 rfl (lv_at hl 0 rfl) ?_
      refine gX_0_laws C hX11_heard_0_X11 hK hP mX11_heard_0_2 dX11_heard_28 ?_
      refine lv_iload_n C.1 C.2.1 dX11_heard_31 rfl (lv_at hl 1 rfl) ?_
      refine lv_iload_n C.1 C.2.1 dX11_heard_32 rfl (lv_at hl 2 rfl) ?_
      refine lv_iload_n C.1 C.2.1 dX11_heard_33 rfl (lv_at hl 3 rfl) ?_
      refine lv_aload_n C.1 C.2.1 dX11_heard_34 rfl (lv_at hl 0 rfl) ?_
      refine gX_0_now C hX11_heard_0_X11 hK hP mX11_heard_0_3 dX11_heard_35 ?_
      obtain ⟨r7, hc9, h⟩ := bd_some h
      refine cs_i (As := [.int (u.1 0)]) (rest := [.int x3, .int x2, .int x1, .ref (ad 3)]) (AX_ge hJ) C hK hP hS (metX11_seasonOf l D cy st _ (u.1 0) hc9) (va_cwS 1 C.2.2.2.2.2.1 gX11_heard_X11_seasonOf rfl rfl rfl (by decide +kernel) ⟨(Nat.le_of_ble_eq_true rfl), (Nat.le_of_ble_eq_true rfl)⟩) rfl hl.1 rfl (Nat.le_of_ble_eq_true rfl) dX11_heard_38 ⟨Nat.zero_le _, Nat.zero_le _⟩ (fun H locs hP hS => ?_)
      refine lv_iload C.1 C.2.1 dX11_heard_41 (lv_at hl 4 rfl) ?_
      refine lv_iload C.1 C.2.1 dX11_heard_43 (lv_at hl 5 rfl) ?_
      obtain ⟨⟨r10, u11⟩, hc12, h⟩ := bd_some h
      try dsimp only at h
      refine cg_v (As := [.int x1, .int x2, .int x3, .int r7, .int x4, .int x5]) (rest := []) (AX_ge hJ) C hK hP hS (metX8_setAim_3 l D cy ad st hJ _ x1 x2 x3 r7 x4 x5 hc12) (cwV 6 C.2.2.2.2.2.1 gX11_heard_X8_setAim rfl rfl rfl (by decide +kernel) ⟨(Nat.le_of_ble_eq_true rfl), (Nat.le_of_ble_eq_true rfl)⟩) 3 8 rfl rfl rfl hl.1 rfl (Nat.le_of_ble_eq_true rfl) dX11_heard_45 ⟨Nat.zero_le _, Nat.zero_le _⟩ (fun H locs hP hS => ?_)
      refine lv_lload C.1 C.2.1 dX11_heard_48 (lv_at hl 7 rfl) ?_
      refine lv_ldc2 C.1 C.2.1 C.2.2.2.2.1 (C.2.2.2.2.2.1 _ mX11_heard_0_4) dX11_heard_50 ?_
      refine lv_lmul C.1 C.2.1 dX11_heard_53 ?_
      refine lv_ldc2 C.1 C.2.1 C.2.2.2.2.1 (C.2.2.2.2.2.1 _ mX11_heard_0_5) dX11_heard_54 ?_
      refine lv_ladd C.1 C.2.1 dX11_heard_57 ?_
      refine lv_bipush (v := 33) C.1 C.2.1 dX11_heard_58 (by decide) ?_
      refine lv_lushr (v := (((x7 * 6364136223846793005) + 1442695040888963407).toUInt64 >>> ((33 : Int32).toInt64.toUInt64 &&& Int64.toUInt64 63)).toInt64) C.1 C.2.1 dX11_heard_60 rfl ?_
      refine lv_topl (fun v13 hv14 => ?_)
      replace h := lt_e hv14 h
      try dsimp only at h
      refine lv_lstore (lv' := [(9, .long v13), (0, .ref (ad 0)), (1, .int x1), (2, .int x2), (3, .int x3), (4, .int x4), (5, .int x5), (6, .int x6), (7, .long x7)]) C.1 C.2.1 dX11_heard_61 hl (by decide) rfl (fun ls hl => ?_)
      replace hl := lv_sub (l' := [(0, .ref (ad 0)), (1, .int x1), (2, .int x2), (3, .int x3), (4, .int x4), (5, .int x5), (6, .int x6), (7, .long x7), (9, .long v13)]) hl [1, 2, 3, 4, 5, 6, 7, 8, 0] rfl
      refine lv_aload_n C.1 C.2.1 dX11_heard_63 rfl (lv_at hl 0 rfl) ?_
      obtain ⟨⟨r15, u16⟩, hc17, h⟩ := bd_some h
      try dsimp only at h
      refine cg_i (As := []) (rest := []) (AX_ge hJ) C hK hP hS (metX11_trueSum_0 l D cy ad st hJ _  hc17) (cwV 0 C.2.2.2.2.2.1 gX11_heard_X11_trueSum rfl rfl rfl (by decide +kernel) ⟨(Nat.le_of_ble_eq_true rfl), (Nat.le_of_ble_eq_true rfl)⟩) 0 11 rfl rfl rfl hl.1 rfl (Nat.le_of_ble_eq_true rfl) dX11_heard_64 ⟨Nat.zero_le _, Nat.zero_le _⟩ (fun H locs hP hS => ?_)
      refine lv_lload C.1 C.2.1 dX11_heard_67 (lv_at hl 8 rfl) ?_
      refine lv_iconst (v := 2) C.1 C.2.1 dX11_heard_69 (by decide) ?_
      refine lv_iload C.1 C.2.1 dX11_heard_70 (lv_at hl 6 rfl) ?_
      refine lv_imul C.1 C.2.1 dX11_heard_72 ?_
      refine lv_iconst (v := 1) C.1 C.2.1 dX11_heard_73 (by decide) ?_
      refine lv_iadd C.1 C.2.1 dX11_heard_74 ?_
      refine lv_i2l (v := ((2 * x6) + 1).toInt64) C.1 C.2.1 dX11_heard_75 rfl ?_
      obtain ⟨hg18, h⟩ := gd_some h
      refine lv_lrem C.1 C.2.1 dX11_heard_76 (nzL_n hg18) ?_
      refine lv_l2i (v := (v13 - v13 / (((2 * x6) + 1).toInt64) * (((2 * x6) + 1).toInt64)).toInt32) C.1 C.2.1 dX11_heard_77 rfl ?_
      refine lv_iadd C.1 C.2.1 dX11_heard_78 ?_
      refine lv_iload C.1 C.2.1 dX11_heard_79 (lv_at hl 6 rfl) ?_
      refine lv_isub C.1 C.2.1 dX11_heard_81 ?_
      cases h
      exact rt_i C hP hS dX11_heard_82
    · rw [if_pos c21] at h
      refine lv_ldc C.1 C.2.1 C.2.2.2.2.1 (C.2.2.2.2.2.1 _ mX11_heard_0_0) dX11_heard_24 ?_
      cases h
      exact rt_i C hP hS dX11_heard_26
theorem metX11_heard_0 (l : Launch) (D : va_G) (cy : Nat → ClassId) (ad st : Nat → Nat) (hJ : JX ad st) (sz : Nat) (x1 : Int32) (x2 : Int32) (x3 : Int32) (x4 : Int32) (x5 : Int32) (x6 : Int32) (x7 : Int64) {u : SX} {r : Int32} {u' : SX} (h : fX11_heard_0 x1 x2 x3 x4 x5 x6 x7 u = some (r, u')) : Met l yX11_heard wsX11_heard rmX11_heard_0 (va_Pc [.ref (ad 0), .int x1, .int x2, .int x3, .int x4, .int x5, .int x6, .long x7] (Px D [(cy 0, .int), (cy 1, .long), (cy 2, .boolean), (cy 3, .byte), (cy 4, .object "HissHorn$Text")] st (VX cy ad st) sz u)) (Qi D (VX cy ad st) (AX ad) sz r u') 0 0 (Ax (AX ad) sz) := by
  refine Met.ofW (cc := cX11_heard) (maxL := 11) (ret := (some .int)) (by decide) rfl ?_
  intro p e s m args below meth c s₁ B hml hv
  obtain ⟨rfl, hsz, hP, hK⟩ := hv
  subst hsz
  have C : Cx RX11 cX11_heard 11 (some .int) wsX11_heard p s m _ meth c := ⟨B.exec, B.bytes, hml, B.returns, findClass_of_methodNamed B.named, atoms_spec (ws := wsX11_heard) B.pre, B.notSynchronized⟩
  have hl := lv_entry ([.ref (ad 0), .int x1, .int x2, .int x3, .int x4, .int x5, .int x6, .long x7]) (n := 11) (Nat.le_of_ble_eq_true rfl)
  rw [lg_entry_eq]
  exact wX11_heard_0 C hK hJ x1 x2 x3 x4 x5 x6 x7 h hP va_S.rf hl

theorem zdX7_add_0 : (and (and (and (and (and (zk cX7_add 0 (.aload_n 0) 1) (zk cX7_add 1 (.getfield 45) 3)) (and (zk cX7_add 4 (.bipush 80) 2) (zk cX7_add 6 (.if_icmp .lt 5) 3))) (and (and (zk cX7_add 11 (.aload_n 0) 1) (zk cX7_add 12 (.getfield 30) 3)) (and (zk cX7_add 15 (.getfield 49) 3) (zk cX7_add 18 (.iconst 0) 1)))) (and (and (and (zk cX7_add 19 (.aload_n 0) 1) (zk cX7_add 20 (.getfield 9) 3)) (and (zk cX7_add 23 (.aload_n 0) 1) (zk cX7_add 24 (.getfield 45) 3))) (and (and (zk cX7_add 27 (.bipush 6) 2) (zk cX7_add 29 (.imul) 1)) (and (zk cX7_add 30 (.bipush 6) 2) (zk cX7_add 32 (.invokestatic 54) 3))))) (and (and (and (and (zk cX7_add 35 (.aload_n 0) 1) (zk cX7_add 36 (.getfield 24) 3)) (and (zk cX7_add 39 (.aload_n 0) 1) (zk cX7_add 40 (.getfield 45) 3))) (and (and (zk cX7_add 43 (.iload_n 1) 1) (zk cX7_add 44 (.iastore) 1)) (and (zk cX7_add 45 (.aload_n 0) 1) (zk cX7_add 46 (.getfield 15) 3)))) (and (and (and (zk cX7_add 49 (.aload_n 0) 1) (zk cX7_add 50 (.getfield 45) 3)) (and (zk cX7_add 53 (.iload_n 2) 1) (zk cX7_add 54 (.iastore) 1))) (and (and (zk cX7_add 55 (.aload_n 0) 1) (zk cX7_add 56 (.dup) 1)) (and (zk cX7_add 57 (.getfield 45) 3) (zk cX7_add 60 (.iconst 1) 1)))))) = true := by decide +kernel
theorem dX7_add_0 : decode cX7_add 0 = .ok (.aload_n 0, 1) := zk_of (zk_l (zk_l (zk_l (zk_l (zk_l zdX7_add_0)))))
theorem dX7_add_1 : decode cX7_add 1 = .ok (.getfield 45, 3) := zk_of (zk_r (zk_l (zk_l (zk_l (zk_l zdX7_add_0)))))
theorem dX7_add_4 : decode cX7_add 4 = .ok (.bipush 80, 2) := zk_of (zk_l (zk_r (zk_l (zk_l (zk_l zdX7_add_0)))))
theorem dX7_add_6 : decode cX7_add 6 = .ok (.if_icmp .lt 5, 3) := zk_of (zk_r (zk_r (zk_l (zk_l (zk_l zdX7_add_0)))))
theorem dX7_add_11 : decode cX7_add 11 = .ok (.aload_n 0, 1) := zk_of (zk_l (zk_l (zk_r (zk_l (zk_l zdX7_add_0)))))
theorem dX7_add_12 : decode cX7_add 12 = .ok (.getfield 30, 3) := zk_of (zk_r (zk_l (zk_r (zk_l (zk_l zdX7_add_0)))))
theorem dX7_add_15 : decode cX7_add 15 = .ok (.getfield 49, 3) := zk_of (zk_l (zk_r (zk_r (zk_l (zk_l zdX7_add_0)))))
theorem dX7_add_18 : decode cX7_add 18 = .ok (.iconst 0, 1) := zk_of (zk_r (zk_r (zk_r (zk_l (zk_l zdX7_add_0)))))
theorem dX7_add_19 : decode cX7_add 19 = .ok (.aload_n 0, 1) := zk_of (zk_l (zk_l (zk_l (zk_r (zk_l zdX7_add_0)))))
theorem dX7_add_20 : decode cX7_add 20 = .ok (.getfield 9, 3) := zk_of (zk_r (zk_l (zk_l (zk_r (zk_l zdX7_add_0)))))
theorem dX7_add_23 : decode cX7_add 23 = .ok (.aload_n 0, 1) := zk_of (zk_l (zk_r (zk_l (zk_r (zk_l zdX7_add_0)))))
theorem dX7_add_24 : decode cX7_add 24 = .ok (.getfield 45, 3) := zk_of (zk_r (zk_r (zk_l (zk_r (zk_l zdX7_add_0)))))
theorem dX7_add_27 : decode cX7_add 27 = .ok (.bipush 6, 2) := zk_of (zk_l (zk_l (zk_r (zk_r (zk_l zdX7_add_0)))))
theorem dX7_add_29 : decode cX7_add 29 = .ok (.imul, 1) := zk_of (zk_r (zk_l (zk_r (zk_r (zk_l zdX7_add_0)))))
theorem dX7_add_30 : decode cX7_add 30 = .ok (.bipush 6, 2) := zk_of (zk_l (zk_r (zk_r (zk_r (zk_l zdX7_add_0)))))
theorem dX7_add_32 : decode cX7_add 32 = .ok (.invokestatic 54, 3) := zk_of (zk_r (zk_r (zk_r (zk_r (zk_l zdX7_add_0)))))
theorem dX7_add_35 : decode cX7_add 35 = .ok (.aload_n 0, 1) := zk_of (zk_l (zk_l (zk_l (zk_l (zk_r zdX7_add_0)))))
theorem dX7_add_36 : decode cX7_add 36 = .ok (.getfield 24, 3) := zk_of (zk_r (zk_l (zk_l (zk_l (zk_r zdX7_add_0)))))
theorem dX7_add_39 : decode cX7_add 39 = .ok (.aload_n 0, 1) := zk_of (zk_l (zk_r (zk_l (zk_l (zk_r zdX7_add_0)))))
theorem dX7_add_40 : decode cX7_add 40 = .ok (.getfield 45, 3) := zk_of (zk_r (zk_r (zk_l (zk_l (zk_r zdX7_add_0)))))
theorem dX7_add_43 : decode cX7_add 43 = .ok (.iload_n 1, 1) := zk_of (zk_l (zk_l (zk_r (zk_l (zk_r zdX7_add_0)))))
theorem dX7_add_44 : decode cX7_add 44 = .ok (.iastore, 1) := zk_of (zk_r (zk_l (zk_r (zk_l (zk_r zdX7_add_0)))))
theorem dX7_add_45 : decode cX7_add 45 = .ok (.aload_n 0, 1) := zk_of (zk_l (zk_r (zk_r (zk_l (zk_r zdX7_add_0)))))
theorem dX7_add_46 : decode cX7_add 46 = .ok (.getfield 15, 3) := zk_of (zk_r (zk_r (zk_r (zk_l (zk_r zdX7_add_0)))))
theorem dX7_add_49 : decode cX7_add 49 = .ok (.aload_n 0, 1) := zk_of (zk_l (zk_l (zk_l (zk_r (zk_r zdX7_add_0)))))
theorem dX7_add_50 : decode cX7_add 50 = .ok (.getfield 45, 3) := zk_of (zk_r (zk_l (zk_l (zk_r (zk_r zdX7_add_0)))))
theorem dX7_add_53 : decode cX7_add 53 = .ok (.iload_n 2, 1) := zk_of (zk_l (zk_r (zk_l (zk_r (zk_r zdX7_add_0)))))
theorem dX7_add_54 : decode cX7_add 54 = .ok (.iastore, 1) := zk_of (zk_r (zk_r (zk_l (zk_r (zk_r zdX7_add_0)))))
theorem dX7_add_55 : decode cX7_add 55 = .ok (.aload_n 0, 1) := zk_of (zk_l (zk_l (zk_r (zk_r (zk_r zdX7_add_0)))))
theorem dX7_add_56 : decode cX7_add 56 = .ok (.dup, 1) := zk_of (zk_r (zk_l (zk_r (zk_r (zk_r zdX7_add_0)))))
theorem dX7_add_57 : decode cX7_add 57 = .ok (.getfield 45, 3) := zk_of (zk_l (zk_r (zk_r (zk_r (zk_r zdX7_add_0)))))
theorem dX7_add_60 : decode cX7_add 60 = .ok (.iconst 1, 1) := zk_of (zk_r (zk_r (zk_r (zk_r (zk_r zdX7_add_0)))))
theorem zdX7_add_61 : (and (and (and (and (zk cX7_add 61 (.iadd) 1) (zk cX7_add 62 (.putfield 45) 3)) (zk cX7_add 65 (.aload_n 0) 1)) (and (zk cX7_add 66 (.getfield 45) 3) (zk cX7_add 69 (.iconst 1) 1))) (and (and (zk cX7_add 70 (.isub) 1) (zk cX7_add 71 (.ireturn) 1)) (and (zk cX7_add 9 (.iconst (-1)) 1) (zk cX7_add 10 (.ireturn) 1)))) = true := by decide +kernel
theorem dX7_add_61 : decode cX7_add 61 = .ok (.iadd, 1) := zk_of (zk_l (zk_l (zk_l (zk_l zdX7_add_61))))
theorem dX7_add_62 : decode cX7_add 62 = .ok (.putfield 45, 3) := zk_of (zk_r (zk_l (zk_l (zk_l zdX7_add_61))))
theorem dX7_add_65 : decode cX7_add 65 = .ok (.aload_n 0, 1) := zk_of (zk_r (zk_l (zk_l zdX7_add_61)))
theorem dX7_add_66 : decode cX7_add 66 = .ok (.getfield 45, 3) := zk_of (zk_l (zk_r (zk_l zdX7_add_61)))
theorem dX7_add_69 : decode cX7_add 69 = .ok (.iconst 1, 1) := zk_of (zk_r (zk_r (zk_l zdX7_add_61)))
theorem dX7_add_70 : decode cX7_add 70 = .ok (.isub, 1) := zk_of (zk_l (zk_l (zk_r zdX7_add_61)))
theorem dX7_add_71 : decode cX7_add 71 = .ok (.ireturn, 1) := zk_of (zk_r (zk_l (zk_r zdX7_add_61)))
theorem dX7_add_9 : decode cX7_add 9 = .ok (.iconst (-1), 1) := zk_of (zk_l (zk_r (zk_r zdX7_add_61)))
theorem dX7_add_10 : decode cX7_add 10 = .ok (.ireturn, 1) := zk_of (zk_r (zk_r (zk_r zdX7_add_61)))
/-- HissHorn$Readings.add(II)I of cell 7 -/
def rmX7_add_7 : Room := { frames := 1, cells := 0, slots := 0, locals := 18 }
theorem hX7_add_7_X7 : ∀ w ∈ u_ws RX7 TX7 12, w ∈ wsX7_add := fun w h => (List.mem_cons_of_mem _ (List.mem_append_left _ (List.mem_append_right _ h)))
theorem mX7_add_7_1 : Cond.fieldLink RX7 45 "HissHorn$Readings" "size" "I" ∈ wsX7_add := (List.mem_cons_of_mem _ (List.mem_append_left _ (List.mem_append_left _ (List.mem_of_getElem? (i := 0) rfl))))
theorem mX7_add_7_2 : Cond.fieldLink RX7 30 "HissHorn$Readings" "laws" "LHissHorn$Shelf;" ∈ wsX7_add := (List.mem_cons_of_mem _ (List.mem_append_left _ (List.mem_append_left _ (List.mem_of_getElem? (i := 1) rfl))))
theorem hX7_add_7_X8 : ∀ w ∈ u_ws RX8 TX8 5, w ∈ wsX7_add := fun w h => (List.mem_cons_of_mem _ (List.mem_append_right _ h))
theorem mX7_add_7_4 : Cond.fieldLink RX7 49 "HissHorn$Shelf" "values" "[I" ∈ wsX7_add := (List.mem_cons_of_mem _ (List.mem_append_left _ (List.mem_append_left _ (List.mem_of_getElem? (i := 2) rfl))))
theorem mX7_add_7_5 : Cond.fieldLink RX7 9 "HissHorn$Readings" "aims" "[I" ∈ wsX7_add := (List.mem_cons_of_mem _ (List.mem_append_left _ (List.mem_append_left _ (List.mem_of_getElem? (i := 3) rfl))))
theorem mX7_add_7_6 : Cond.methodLink RX7 54 arraycopyName ∈ wsX7_add := (List.mem_cons_of_mem _ (List.mem_append_left _ (List.mem_append_left _ (List.mem_of_getElem? (i := 4) rfl))))
theorem mX7_add_7_7 : Cond.native arraycopyName ∈ wsX7_add := (List.mem_cons_of_mem _ (List.mem_append_left _ (List.mem_append_left _ (List.mem_of_getElem? (i := 5) rfl))))
theorem mX7_add_7_8 : Cond.static arraycopyName ∈ wsX7_add := (List.mem_cons_of_mem _ (List.mem_append_left _ (List.mem_append_left _ (List.mem_of_getElem? (i := 6) rfl))))
theorem mX7_add_7_9 : Cond.initialized "java/lang/System" ∈ wsX7_add := (List.mem_cons_of_mem _ (List.mem_append_left _ (List.mem_append_left _ (List.mem_of_getElem? (i := 7) rfl))))
theorem mX7_add_7_10 : Cond.fieldLink RX7 24 "HissHorn$Readings" "number" "[I" ∈ wsX7_add := (List.mem_cons_of_mem _ (List.mem_append_left _ (List.mem_append_left _ (List.mem_of_getElem? (i := 8) rfl))))
theorem mX7_add_7_11 : Cond.fieldLink RX7 15 "HissHorn$Readings" "day" "[I" ∈ wsX7_add := (List.mem_cons_of_mem _ (List.mem_append_left _ (List.mem_append_left _ (List.mem_of_getElem? (i := 9) rfl))))
def fX7_add_7 (x1 : Int32) (x2 : Int32) (u : SX) : Option (Int32 × SX) := (if (u.1 13) < 80 then (gd (cpok 0 ((u.1 13) * 6) 6 6 480) (lt (sA u 36 (va_cpy (u.2.1 16) (u.2.1 36) (0 : Int32).toNatClampNeg ((u.1 13) * 6).toNatClampNeg (6 : Int32).toNatClampNeg)) fun u2 => (gd (inb (u2.1 13) 80) (lt (sA u2 40 (upd (u2.2.1 40) (u2.1 13).toNatClampNeg x1)) fun u5 => (gd (inb (u5.1 13) 80) (lt (sA u5 37 (upd (u5.2.1 37) (u5.1 13).toNatClampNeg x2)) fun u8 => (lt (sI u8 13 ((u8.1 13) + 1)) fun u10 => (some ((u10.1 13) - 1, u10))))))))) else (some ((-1), u)))
set_option maxHeartbeats 4000000 in
set_option maxRecDepth 100000 in
theorem wX7_add_7 {p : Program} {l : Launch} {e : Env} {s : State} {m : MethodId} {args : Array Value} {below : List Frame} {meth : Method} {c : Code} {D : va_G} {cy : Nat → ClassId} {ad st : Nat → Nat} (C : Cx RX7 cX7_add 3 (some .int) wsX7_add p s m args meth c) (hK : Ky D [(cy 0, .int), (cy 1, .long), (cy 2, .boolean), (cy 3, .byte), (cy 4, .object "HissHorn$Text")] st s) (hJ : JX ad st) (x1 : Int32) (x2 : Int32) {u : SX} {r : Int32} {u' : SX} {H : Heap} {locs : List Loc} {ls : Array Slot} (h : fX7_add_7 x1 x2 u = some (r, u')) (hP : va_P D vwCl (VX cy ad st u) H) (hS : va_S (Ax (AX ad) s.heap.size) s.heap H locs) (hl : lv_has ls 3 [(0, .ref (ad 7)), (1, .int x1), (2, .int x2)]) : W p l e rmX7_add_7 s m args below meth c H locs 0 0 (MQ below (Qi D (VX cy ad st) (AX ad) s.heap.size r u') args s 0 0 (Ax (AX ad) s.heap.size)) (F0 m 0 ls []) := by
  unfold fX7_add_7 at h
  refine lv_aload_n C.1 C.2.1 dX7_add_0 rfl (lv_at hl 0 rfl) ?_
  refine gX_7_size C hX7_add_7_X7 hK hP mX7_add_7_1 dX7_add_1 ?_
  refine lv_bipush (v := 80) C.1 C.2.1 dX7_add_4 (by decide) ?_
  refine lv_icmp_lt (tgt := 11) C.1 C.2.1 dX7_add_6 (by decide) (fun c6 => ?_) (fun c6 => ?_)
  · rw [if_pos c6] at h
    refine lv_aload_n C.1 C.2.1 dX7_add_11 rfl (lv_at hl 0 rfl) ?_
    refine gX_7_laws C hX7_add_7_X7 hK hP mX7_add_7_2 dX7_add_12 ?_
    refine gX_3_values C hX7_add_7_X8 hK hP mX7_add_7_4 dX7_add_15 ?_
    refine lv_iconst (v := 0) C.1 C.2.1 dX7_add_18 (by decide) ?_
    refine lv_aload_n C.1 C.2.1 dX7_add_19 rfl (lv_at hl 0 rfl) ?_
    refine gX_7_aims C hX7_add_7_X7 hK hP mX7_add_7_5 dX7_add_20 ?_
    refine lv_aload_n C.1 C.2.1 dX7_add_23 rfl (lv_at hl 0 rfl) ?_
    refine gX_7_size C hX7_add_7_X7 hK hP mX7_add_7_1 dX7_add_24 ?_
    refine lv_bipush (v := 6) C.1 C.2.1 dX7_add_27 (by decide) ?_
    refine lv_imul C.1 C.2.1 dX7_add_29 ?_
    refine lv_bipush (v := 6) C.1 C.2.1 dX7_add_30 (by decide) ?_
    obtain ⟨hg1, h⟩ := gd_some h
    refine yX_16_36 C (C.2.2.1.trans hl.1.symm) (C.2.2.2.2.2.1 _ mX7_add_7_6) (C.2.2.2.2.2.1 _ mX7_add_7_7) (C.2.2.2.2.2.1 _ mX7_add_7_8) (C.2.2.2.2.2.1 _ mX7_add_7_9) hK hP hJ hS hg1 (Nat.le_of_ble_eq_true rfl) (Nat.le_of_ble_eq_true rfl) dX7_add_32 (fun H locs hP hS => ?_)
    obtain ⟨u2, hu3, h⟩ := lt_some h
    rw [← hu3] at hP
    refine lv_aload_n C.1 C.2.1 dX7_add_35 rfl (lv_at hl 0 rfl) ?_
    refine gX_7_number C hX7_add_7_X7 hK hP mX7_add_7_10 dX7_add_36 ?_
    refine lv_aload_n C.1 C.2.1 dX7_add_39 rfl (lv_at hl 0 rfl) ?_
    refine gX_7_size C hX7_add_7_X7 hK hP mX7_add_7_1 dX7_add_40 ?_
    refine lv_iload_n C.1 C.2.1 dX7_add_43 rfl (lv_at hl 1 rfl) ?_
    obtain ⟨hg4, h⟩ := gd_some h
    refine tX_40 C hK hP hJ hS hg4 dX7_add_44 (fun H locs hP hS => ?_)
    obtain ⟨u5, hu6, h⟩ := lt_some h
    rw [← hu6] at hP
    refine lv_aload_n C.1 C.2.1 dX7_add_45 rfl (lv_at hl 0 rfl) ?_
    refine gX_7_day C hX7_add_7_X7 hK hP mX7_add_7_11 dX7_add_46 ?_
    refine lv_aload_n C.1 C.2.1 dX7_add_49 rfl (lv_at hl 0 rfl) ?_
    refine gX_7_size C hX7_add_7_X7 hK hP mX7_add_7_1 dX7_add_50 ?_
    refine lv_iload_n C.1 C.2.1 dX7_add_53 rfl (lv_at hl 2 rfl) ?_
    obtain ⟨hg7, h⟩ := gd_some h
    refine tX_37 C hK hP hJ hS hg7 dX7_add_54 (fun H locs hP hS => ?_)
    obtain ⟨u8, hu9, h⟩ := lt_some h
    rw [← hu9] at hP
    refine lv_aload_n C.1 C.2.1 dX7_add_55 rfl (lv_at hl 0 rfl) ?_
    refine lv_dup C.1 C.2.1 dX7_add_56 rfl ?_
    refine gX_7_size C hX7_add_7_X7 hK hP mX7_add_7_1 dX7_add_57 ?_
    refine lv_iconst (v := 1) C.1 C.2.1 dX7_add_60 (by decide) ?_
    refine lv_iadd C.1 C.2.1 dX7_add_61 ?_
    refine pX_7_size C hX7_add_7_X7 hK hP hJ hS mX7_add_7_1 dX7_add_62 (fun H locs hP hS => ?_)
    obtain ⟨u10, hu11, h⟩ := lt_some h
    rw [← hu11] at hP
    refine lv_aload_n C.1 C.2.1 dX7_add_65 rfl (lv_at hl 0 rfl) ?_
    refine gX_7_size C hX7_add_7_X7 hK hP mX7_add_7_1 dX7_add_66 ?_
    refine lv_iconst (v := 1) C.1 C.2.1 dX7_add_69 (by decide) ?_
    refine lv_isub C.1 C.2.1 dX7_add_70 ?_
    cases h
    exact rt_i C hP hS dX7_add_71
  · rw [if_neg c6] at h
    refine lv_iconst (v := (-1)) C.1 C.2.1 dX7_add_9 (by decide) ?_
    cases h
    exact rt_i C hP hS dX7_add_10
theorem metX7_add_7 (l : Launch) (D : va_G) (cy : Nat → ClassId) (ad st : Nat → Nat) (hJ : JX ad st) (sz : Nat) (x1 : Int32) (x2 : Int32) {u : SX} {r : Int32} {u' : SX} (h : fX7_add_7 x1 x2 u = some (r, u')) : Met l yX7_add wsX7_add rmX7_add_7 (va_Pc [.ref (ad 7), .int x1, .int x2] (Px D [(cy 0, .int), (cy 1, .long), (cy 2, .boolean), (cy 3, .byte), (cy 4, .object "HissHorn$Text")] st (VX cy ad st) sz u)) (Qi D (VX cy ad st) (AX ad) sz r u') 0 0 (Ax (AX ad) sz) := by
  refine Met.ofW (cc := cX7_add) (maxL := 3) (ret := (some .int)) (by decide) rfl ?_
  intro p e s m args below meth c s₁ B hml hv
  obtain ⟨rfl, hsz, hP, hK⟩ := hv
  subst hsz
  have C : Cx RX7 cX7_add 3 (some .int) wsX7_add p s m _ meth c := ⟨B.exec, B.bytes, hml, B.returns, findClass_of_methodNamed B.named, atoms_spec (ws := wsX7_add) B.pre, B.notSynchronized⟩
  have hl := lv_entry ([.ref (ad 7), .int x1, .int x2]) (n := 3) (Nat.le_of_ble_eq_true rfl)
  rw [lg_entry_eq]
  exact wX7_add_7 C hK hJ x1 x2 h hP va_S.rf hl

theorem zdX11_read_0 : (and (and (and (and (and (zk cX11_read 0 (.iload_n 1) 1) (zk cX11_read 1 (.iload_n 2) 1)) (and (zk cX11_read 2 (.iload_n 3) 1) (zk cX11_read 3 (.iload 4) 2))) (and (and (zk cX11_read 5 (.iload 5) 2) (zk cX11_read 7 (.invokestatic 150) 3)) (and (zk cX11_read 10 (.ifCond .eq 27) 3) (zk cX11_read 37 (.iconst (-1)) 1)))) (and (and (and (zk cX11_read 38 (.ireturn) 1) (zk cX11_read 13 (.iload 6) 2)) (and (zk cX11_read 15 (.ldc 206) 2) (zk cX11_read 17 (.ldc 207) 2))) (and (and (zk cX11_read 19 (.invokestatic 107) 3) (zk cX11_read 22 (.ifCond .eq 15) 3)) (and (zk cX11_read 25 (.aload_n 0) 1) (zk cX11_read 26 (.getfield 58) 3))))) (and (and (and (and (zk cX11_read 29 (.getfield 208) 3) (zk cX11_read 32 (.bipush 80) 2)) (and (zk cX11_read 34 (.if_icmp .lt 5) 3) (zk cX11_read 39 (.aload_n 0) 1))) (and (and (zk cX11_read 40 (.getfield 32) 3) (zk cX11_read 43 (.iload_n 1) 1)) (and (zk cX11_read 44 (.iload_n 2) 1) (zk cX11_read 45 (.iload_n 3) 1)))) (and (and (and (zk cX11_read 46 (.aload_n 0) 1) (zk cX11_read 47 (.getfield 103) 3)) (and (zk cX11_read 50 (.invokestatic 195) 3) (zk cX11_read 53 (.iload 4) 2))) (and (and (zk cX11_read 55 (.iload 5) 2) (zk cX11_read 57 (.invokevirtual 157) 3)) (and (zk cX11_read 60 (.aload_n 0) 1) (zk cX11_read 61 (.getfield 58) 3)))))) = true := by decide +kernel
theorem dX11_read_0 : decode cX11_read 0 = .ok (.iload_n 1, 1) := zk_of (zk_l (zk_l (zk_l (zk_l (zk_l zdX11_read_0)))))
theorem dX11_read_1 : decode cX11_read 1 = .ok (.iload_n 2, 1) := zk_of (zk_r (zk_l (zk_l (zk_l (zk_l zdX11_read_0)))))
theorem dX11_read_2 : decode cX11_read 2 = .ok (.iload_n 3, 1) := zk_of (zk_l (zk_r (zk_l (zk_l (zk_l zdX11_read_0)))))
theorem dX11_read_3 : decode cX11_read 3 = .ok (.iload 4, 2) := zk_of (zk_r (zk_r (zk_l (zk_l (zk_l zdX11_read_0)))))
theorem dX11_read_5 : decode cX11_read 5 = .ok (.iload 5, 2) := zk_of (zk_l (zk_l (zk_r (zk_l (zk_l zdX11_read_0)))))
theorem dX11_read_7 : decode cX11_read 7 = .ok (.invokestatic 150, 3) := zk_of (zk_r (zk_l (zk_r (zk_l (zk_l zdX11_read_0)))))
theorem dX11_read_10 : decode cX11_read 10 = .ok (.ifCond .eq 27, 3) := zk_of (zk_l (zk_r (zk_r (zk_l (zk_l zdX11_read_0)))))
theorem dX11_read_37 : decode cX11_read 37 = .ok (.iconst (-1), 1) := zk_of (zk_r (zk_r (zk_r (zk_l (zk_l zdX11_read_0)))))
theorem dX11_read_38 : decode cX11_read 38 = .ok (.ireturn, 1) := zk_of (zk_l (zk_l (zk_l (zk_r (zk_l zdX11_read_0)))))
theorem dX11_read_13 : decode cX11_read 13 = .ok (.iload 6, 2) := zk_of (zk_r (zk_l (zk_l (zk_r (zk_l zdX11_read_0)))))
theorem dX11_read_15 : decode cX11_read 15 = .ok (.ldc 206, 2) := zk_of (zk_l (zk_r (zk_l (zk_r (zk_l zdX11_read_0)))))
theorem dX11_read_17 : decode cX11_read 17 = .ok (.ldc 207, 2) := zk_of (zk_r (zk_r (zk_l (zk_r (zk_l zdX11_read_0)))))
theorem dX11_read_19 : decode cX11_read 19 = .ok (.invokestatic 107, 3) := zk_of (zk_l (zk_l (zk_r (zk_r (zk_l zdX11_read_0)))))
theorem dX11_read_22 : decode cX11_read 22 = .ok (.ifCond .eq 15, 3) := zk_of (zk_r (zk_l (zk_r (zk_r (zk_l zdX11_read_0)))))
theorem dX11_read_25 : decode cX11_read 25 = .ok (.aload_n 0, 1) := zk_of (zk_l (zk_r (zk_r (zk_r (zk_l zdX11_read_0)))))
theorem dX11_read_26 : decode cX11_read 26 = .ok (.getfield 58, 3) := zk_of (zk_r (zk_r (zk_r (zk_r (zk_l zdX11_read_0)))))
theorem dX11_read_29 : decode cX11_read 29 = .ok (.getfield 208, 3) := zk_of (zk_l (zk_l (zk_l (zk_l (zk_r zdX11_read_0)))))
theorem dX11_read_32 : decode cX11_read 32 = .ok (.bipush 80, 2) := zk_of (zk_r (zk_l (zk_l (zk_l (zk_r zdX11_read_0)))))
theorem dX11_read_34 : decode cX11_read 34 = .ok (.if_icmp .lt 5, 3) := zk_of (zk_l (zk_r (zk_l (zk_l (zk_r zdX11_read_0)))))
theorem dX11_read_39 : decode cX11_read 39 = .ok (.aload_n 0, 1) := zk_of (zk_r (zk_r (zk_l (zk_l (zk_r zdX11_read_0)))))
theorem dX11_read_40 : decode cX11_read 40 = .ok (.getfield 32, 3) := zk_of (zk_l (zk_l (zk_r (zk_l (zk_r zdX11_read_0)))))
theorem dX11_read_43 : decode cX11_read 43 = .ok (.iload_n 1, 1) := zk_of (zk_r (zk_l (zk_r (zk_l (zk_r zdX11_read_0)))))
theorem dX11_read_44 : decode cX11_read 44 = .ok (.iload_n 2, 1) := zk_of (zk_l (zk_r (zk_r (zk_l (zk_r zdX11_read_0)))))
theorem dX11_read_45 : decode cX11_read 45 = .ok (.iload_n 3, 1) := zk_of (zk_r (zk_r (zk_r (zk_l (zk_r zdX11_read_0)))))
theorem dX11_read_46 : decode cX11_read 46 = .ok (.aload_n 0, 1) := zk_of (zk_l (zk_l (zk_l (zk_r (zk_r zdX11_read_0)))))
theorem dX11_read_47 : decode cX11_read 47 = .ok (.getfield 103, 3) := zk_of (zk_r (zk_l (zk_l (zk_r (zk_r zdX11_read_0)))))
theorem dX11_read_50 : decode cX11_read 50 = .ok (.invokestatic 195, 3) := zk_of (zk_l (zk_r (zk_l (zk_r (zk_r zdX11_read_0)))))
theorem dX11_read_53 : decode cX11_read 53 = .ok (.iload 4, 2) := zk_of (zk_r (zk_r (zk_l (zk_r (zk_r zdX11_read_0)))))
theorem dX11_read_55 : decode cX11_read 55 = .ok (.iload 5, 2) := zk_of (zk_l (zk_l (zk_r (zk_r (zk_r zdX11_read_0)))))
theorem dX11_read_57 : decode cX11_read 57 = .ok (.invokevirtual 157, 3) := zk_of (zk_r (zk_l (zk_r (zk_r (zk_r zdX11_read_0)))))
theorem dX11_read_60 : decode cX11_read 60 = .ok (.aload_n 0, 1) := zk_of (zk_l (zk_r (zk_r (zk_r (zk_r zdX11_read_0)))))
theorem dX11_read_61 : decode cX11_read 61 = .ok (.getfield 58, 3) := zk_of (zk_r (zk_r (zk_r (zk_r (zk_r zdX11_read_0)))))
set_option maxRecDepth 20000 in
theorem ggX11_read_X11_isAim : GoodIn wsX11_read wsX11_isAim := ggi (fun w h => List.mem_cons_of_mem _ (List.mem_append_left _ (List.mem_append_left _ (List.mem_append_left _ (List.mem_append_right _ (List.mem_append_left _ h)))))) gs_X11_isAim
set_option maxRecDepth 20000 in
theorem gX11_read_X11_isAim : GoodIn wsX11_read (va_wsS RX11 150 yX11_isAim wsX11_isAim) := goodIn_app (goodIn_of _ (by decide +kernel)) ggX11_read_X11_isAim
set_option maxRecDepth 20000 in
theorem ggX11_read_X11_within : GoodIn wsX11_read wsX11_within := ggi (fun w h => List.mem_cons_of_mem _ (List.mem_append_left _ (List.mem_append_left _ (List.mem_append_left _ (List.mem_append_right _ (List.mem_append_right _ (List.mem_append_left _ h))))))) gs_X11_within
set_option maxRecDepth 20000 in
theorem gX11_read_X11_within : GoodIn wsX11_read (va_wsS RX11 107 yX11_within wsX11_within) := goodIn_app (goodIn_of _ (by decide +kernel)) ggX11_read_X11_within
set_option maxRecDepth 20000 in
theorem ggX11_read_X11_seasonOf : GoodIn wsX11_read wsX11_seasonOf := ggi (fun w h => List.mem_cons_of_mem _ (List.mem_append_left _ (List.mem_append_left _ (List.mem_append_left _ (List.mem_append_right _ (List.mem_append_right _ (List.mem_append_right _ (List.mem_append_left _ h)))))))) gs_X11_seasonOf
set_option maxRecDepth 20000 in
theorem gX11_read_X11_seasonOf : GoodIn wsX11_read (va_wsS RX11 195 yX11_seasonOf wsX11_seasonOf) := goodIn_app (goodIn_of _ (by decide +kernel)) ggX11_read_X11_seasonOf
set_option maxRecDepth 20000 in
theorem ggX11_read_X8_setAim : GoodIn wsX11_read wsX8_setAim := ggi (fun w h => List.mem_cons_of_mem _ (List.mem_append_left _ (List.mem_append_left _ (List.mem_append_left _ (List.mem_append_right _ (List.mem_append_right _ (List.mem_append_right _ (List.mem_append_right _ (List.mem_append_left _ h))))))))) gs_X8_setAim
set_option maxRecDepth 20000 in
theorem gX11_read_X8_setAim : GoodIn wsX11_read (wsV RX11 157 RX8 yX8_setAim wsX8_setAim) := goodIn_app (goodIn_of _ (by decide +kernel)) ggX11_read_X8_setAim
theorem zdX11_read_64 : (and (and (and (zk cX11_read 64 (.iload 6) 2) (zk cX11_read 66 (.aload_n 0) 1)) (zk cX11_read 67 (.getfield 103) 3)) (and (zk cX11_read 70 (.invokevirtual 209) 3) (zk cX11_read 73 (.ireturn) 1))) = true := by decide +kernel
theorem dX11_read_64 : decode cX11_read 64 = .ok (.iload 6, 2) := zk_of (zk_l (zk_l (zk_l zdX11_read_64)))
theorem dX11_read_66 : decode cX11_read 66 = .ok (.aload_n 0, 1) := zk_of (zk_r (zk_l (zk_l zdX11_read_64)))
theorem dX11_read_67 : decode cX11_read 67 = .ok (.getfield 103, 3) := zk_of (zk_r (zk_l zdX11_read_64))
theorem dX11_read_70 : decode cX11_read 70 = .ok (.invokevirtual 209, 3) := zk_of (zk_l (zk_r zdX11_read_64))
theorem dX11_read_73 : decode cX11_read 73 = .ok (.ireturn, 1) := zk_of (zk_r (zk_r zdX11_read_64))
set_option maxRecDepth 20000 in
theorem ggX11_read_X7_add : GoodIn wsX11_read wsX7_add := ggi (fun w h => List.mem_cons_of_mem _ (List.mem_append_left _ (List.mem_append_left _ (List.mem_append_left _ (List.mem_append_right _ (List.mem_append_right _ (List.mem_append_right _ (List.mem_append_right _ (List.mem_append_right _ h))))))))) gs_X7_add
set_option maxRecDepth 20000 in
theorem gX11_read_X7_add : GoodIn wsX11_read (wsV RX11 209 RX7 yX7_add wsX7_add) := goodIn_app (goodIn_of _ (by decide +kernel)) ggX11_read_X7_add
/-- HissHorn.read(IIIIII)I of cell 0 -/
def rmX11_read_0 : Room := { frames := 2, cells := 0, slots := 0, locals := 48 }
theorem mX11_read_0_0 : Cond.constant RX11 206 (-100000) ∈ wsX11_read := (List.mem_cons_of_mem _ (List.mem_append_left _ (List.mem_append_left _ (List.mem_append_left _ (List.mem_append_left _ (List.mem_of_getElem? (i := 15) rfl))))))
theorem mX11_read_0_1 : Cond.constant RX11 207 (100000) ∈ wsX11_read := (List.mem_cons_of_mem _ (List.mem_append_left _ (List.mem_append_left _ (List.mem_append_left _ (List.mem_append_left _ (List.mem_of_getElem? (i := 16) rfl))))))
theorem hX11_read_0_X11 : ∀ w ∈ u_ws RX11 TX11 13, w ∈ wsX11_read := fun w h => (List.mem_cons_of_mem _ (List.mem_append_left _ (List.mem_append_left _ (List.mem_append_right _ h))))
theorem mX11_read_0_3 : Cond.fieldLink RX11 58 "HissHorn" "readings" "LHissHorn$Readings;" ∈ wsX11_read := (List.mem_cons_of_mem _ (List.mem_append_left _ (List.mem_append_left _ (List.mem_append_left _ (List.mem_append_left _ (List.mem_of_getElem? (i := 17) rfl))))))
theorem hX11_read_0_X7 : ∀ w ∈ u_ws RX7 TX7 12, w ∈ wsX11_read := fun w h => (List.mem_cons_of_mem _ (List.mem_append_left _ (List.mem_append_right _ h)))
theorem mX11_read_0_5 : Cond.fieldLink RX11 208 "HissHorn$Readings" "size" "I" ∈ wsX11_read := (List.mem_cons_of_mem _ (List.mem_append_left _ (List.mem_append_left _ (List.mem_append_left _ (List.mem_append_left _ (List.mem_of_getElem? (i := 18) rfl))))))
theorem mX11_read_0_6 : Cond.fieldLink RX11 32 "HissHorn" "laws" "LHissHorn$Shelf;" ∈ wsX11_read := (List.mem_cons_of_mem _ (List.mem_append_left _ (List.mem_append_left _ (List.mem_append_left _ (List.mem_append_left _ (List.mem_of_getElem? (i := 19) rfl))))))
theorem mX11_read_0_7 : Cond.fieldLink RX11 103 "HissHorn" "now" "I" ∈ wsX11_read := (List.mem_cons_of_mem _ (List.mem_append_left _ (List.mem_append_left _ (List.mem_append_left _ (List.mem_append_left _ (List.mem_of_getElem? (i := 20) rfl))))))
def fX11_read_0 (x1 : Int32) (x2 : Int32) (x3 : Int32) (x4 : Int32) (x5 : Int32) (x6 : Int32) (u : SX) : Option (Int32 × SX) := ((fX11_isAim x1 x2 x3 x4 x5).bind fun r1 => (if r1 = 0 then (some ((-1), u)) else ((fX11_within x6 (-100000) 100000).bind fun r4 => (if r4 = 0 then (some ((-1), u)) else (if (u.1 13) < 80 then ((fX11_seasonOf (u.1 0)).bind fun r7 => ((fX8_setAim_3 x1 x2 x3 r7 x4 x5 u).bind fun q => match q with | (r10, u11) => ((fX7_add_7 x6 (u11.1 0) u11).bind fun q => match q with | (r13, u14) => (some (r13, u14))))) else (some ((-1), u)))))))
set_option maxHeartbeats 4000000 in
set_option maxRecDepth 100000 in
theorem wX11_read_0 {p : Program} {l : Launch} {e : Env} {s : State} {m : MethodId} {args : Array Value} {below : List Frame} {meth : Method} {c : Code} {D : va_G} {cy : Nat → ClassId} {ad st : Nat → Nat} (C : Cx RX11 cX11_read 7 (some .int) wsX11_read p s m args meth c) (hK : Ky D [(cy 0, .int), (cy 1, .long), (cy 2, .boolean), (cy 3, .byte), (cy 4, .object "HissHorn$Text")] st s) (hJ : JX ad st) (x1 : Int32) (x2 : Int32) (x3 : Int32) (x4 : Int32) (x5 : Int32) (x6 : Int32) {u : SX} {r : Int32} {u' : SX} {H : Heap} {locs : List Loc} {ls : Array Slot} (h : fX11_read_0 x1 x2 x3 x4 x5 x6 u = some (r, u')) (hP : va_P D vwCl (VX cy ad st u) H) (hS : va_S (Ax (AX ad) s.heap.size) s.heap H locs) (hl : lv_has ls 7 [(0, .ref (ad 0)), (1, .int x1), (2, .int x2), (3, .int x3), (4, .int x4), (5, .int x5), (6, .int x6)]) : W p l e rmX11_read_0 s m args below meth c H locs 0 0 (MQ below (Qi D (VX cy ad st) (AX ad) s.heap.size r u') args s 0 0 (Ax (AX ad) s.heap.size)) (F0 m 0 ls []) := by
  unfold fX11_read_0 at h
  refine lv_iload_n C.1 C.2.1 dX11_read_0 rfl (lv_at hl 1 rfl) ?_
  refine lv_iload_n C.1 C.2.1 dX11_read_1 rfl (lv_at hl 2 rfl) ?_
  refine lv_iload_n C.1 C.2.1 dX11_read_2 rfl (lv_at hl 3 rfl) ?_
  refine lv_iload C.1 C.2.1 dX11_read_3 (lv_at hl 4 rfl) ?_
  refine lv_iload C.1 C.2.1 dX11_read_5 (lv_at hl 5 rfl) ?_
  obtain ⟨r1, hc3, h⟩ := bd_some h
  refine cs_i (As := [.int x1, .int x2, .int x3, .int x4, .int x5]) (rest := []) (AX_ge hJ) C hK hP hS (metX11_isAim l D cy st _ x1 x2 x3 x4 x5 hc3) (va_cwS 5 C.2.2.2.2.2.1 gX11_read_X11_isAim rfl rfl rfl (by decide +kernel) ⟨(Nat.le_of_ble_eq_true rfl), (Nat.le_of_ble_eq_true rfl)⟩) rfl hl.1 rfl (Nat.le_of_ble_eq_true rfl) dX11_read_7 ⟨Nat.zero_le _, Nat.zero_le _⟩ (fun H locs hP hS => ?_)
  refine lv_if_eq (tgt := 37) C.1 C.2.1 dX11_read_10 (by decide) (fun c10 => ?_) (fun c10 => ?_)
  · rw [if_pos c10] at h
    refine lv_iconst (v := (-1)) C.1 C.2.1 dX11_read_37 (by decide) ?_
    cases h
    exact rt_i C hP hS dX11_read_38
  · rw [if_neg c10] at h
    refine lv_iload C.1 C.2.1 dX11_read_13 (lv_at hl 6 rfl) ?_
    refine lv_ldc C.1 C.2.1 C.2.2.2.2.1 (C.2.2.2.2.2.1 _ mX11_read_0_0) dX11_read_15 ?_
    refine lv_ldc C.1 C.2.1 C.2.2.2.2.1 (C.2.2.2.2.2.1 _ mX11_read_0_1) dX11_read_17 ?_
    obtain ⟨r4, hc6, h⟩ := bd_some h
    refine cs_i (As := [.int x6, .int (-100000), .int 100000]) (rest := []) (AX_ge hJ) C hK hP hS (metX11_within l D cy st _ x6 (-100000) 100000 hc6) (va_cwS 3 C.2.2.2.2.2.1 gX11_read_X11_within rfl rfl rfl (by decide +kernel) ⟨(Nat.le_of_ble_eq_true rfl), (Nat.le_of_ble_eq_true rfl)⟩) rfl hl.1 rfl (Nat.le_of_ble_eq_true rfl) dX11_read_19 ⟨Nat.zero_le _, Nat.zero_le _⟩ (fun H locs hP hS => ?_)
    refine lv_if_eq (tgt := 37) C.1 C.2.1 dX11_read_22 (by decide) (fun c22 => ?_) (fun c22 => ?_)
    · rw [if_pos c22] at h
      refine lv_iconst (v := (-1)) C.1 C.2.1 dX11_read_37 (by decide) ?_
      cases h
      exact rt_i C hP hS dX11_read_38
    · rw [if_neg c22] at h
      refine lv_aload_n C.1 C.2.1 dX11_read_25 rfl (lv_at hl 0 rfl) ?_
      refine gX_0_readings C hX11_read_0_X11 hK hP mX11_read_0_3 dX11_read_26 ?_
      refine gX_7_size C hX11_read_0_X7 hK hP mX11_read_0_5 dX11_read_29 ?_
      refine lv_bipush (v := 80) C.1 C.2.1 dX11_read_32 (by decide) ?_
      refine lv_icmp_lt (tgt := 39) C.1 C.2.1 dX11_read_34 (by decide) (fun c34 => ?_) (fun c34 => ?_)
      · rw [if_pos c34] at h
        refine lv_aload_n C.1 C.2.1 dX11_read_39 rfl (lv_at hl 0 rfl) ?_
        refine gX_0_laws C hX11_read_0_X11 hK hP mX11_read_0_6 dX11_read_40 ?_
        refine lv_iload_n C.1 C.2.1 dX11_read_43 rfl (lv_at hl 1 rfl) ?_
        refine lv_iload_n C.1 C.2.1 dX11_read_44 rfl (lv_at hl 2 rfl) ?_
        refine lv_iload_n C.1 C.2.1 dX11_read_45 rfl (lv_at hl 3 rfl) ?_
        refine lv_aload_n C.1 C.2.1 dX11_read_46 rfl (lv_at hl 0 rfl) ?_
        refine gX_0_now C hX11_read_0_X11 hK hP mX11_read_0_7 dX11_read_47 ?_
        obtain ⟨r7, hc9, h⟩ := bd_some h
        refine cs_i (As := [.int (u.1 0)]) (rest := [.int x3, .int x2, .int x1, .ref (ad 3)]) (AX_ge hJ) C hK hP hS (metX11_seasonOf l D cy st _ (u.1 0) hc9) (va_cwS 1 C.2.2.2.2.2.1 gX11_read_X11_seasonOf rfl rfl rfl (by decide +kernel) ⟨(Nat.le_of_ble_eq_true rfl), (Nat.le_of_ble_eq_true rfl)⟩) rfl hl.1 rfl (Nat.le_of_ble_eq_true rfl) dX11_read_50 ⟨Nat.zero_le _, Nat.zero_le _⟩ (fun H locs hP hS => ?_)
        refine lv_iload C.1 C.2.1 dX11_read_53 (lv_at hl 4 rfl) ?_
        refine lv_iload C.1 C.2.1 dX11_read_55 (lv_at hl 5 rfl) ?_
        obtain ⟨⟨r10, u11⟩, hc12, h⟩ := bd_some h
        try dsimp only at h
        refine cg_v (As := [.int x1, .int x2, .int x3, .int r7, .int x4, .int x5]) (rest := []) (AX_ge hJ) C hK hP hS (metX8_setAim_3 l D cy ad st hJ _ x1 x2 x3 r7 x4 x5 hc12) (cwV 6 C.2.2.2.2.2.1 gX11_read_X8_setAim rfl rfl rfl (by decide +kernel) ⟨(Nat.le_of_ble_eq_true rfl), (Nat.le_of_ble_eq_true rfl)⟩) 3 8 rfl rfl rfl hl.1 rfl (Nat.le_of_ble_eq_true rfl) dX11_read_57 ⟨Nat.zero_le _, Nat.zero_le _⟩ (fun H locs hP hS => ?_)
        refine lv_aload_n C.1 C.2.1 dX11_read_60 rfl (lv_at hl 0 rfl) ?_
        refine gX_0_readings C hX11_read_0_X11 hK hP mX11_read_0_3 dX11_read_61 ?_
        refine lv_iload C.1 C.2.1 dX11_read_64 (lv_at hl 6 rfl) ?_
        refine lv_aload_n C.1 C.2.1 dX11_read_66 rfl (lv_at hl 0 rfl) ?_
        refine gX_0_now C hX11_read_0_X11 hK hP mX11_read_0_7 dX11_read_67 ?_
        obtain ⟨⟨r13, u14⟩, hc15, h⟩ := bd_some h
        try dsimp only at h
        refine cg_i (As := [.int x6, .int (u11.1 0)]) (rest := []) (AX_ge hJ) C hK hP hS (metX7_add_7 l D cy ad st hJ _ x6 (u11.1 0) hc15) (cwV 2 C.2.2.2.2.2.1 gX11_read_X7_add rfl rfl rfl (by decide +kernel) ⟨(Nat.le_of_ble_eq_true rfl), (Nat.le_of_ble_eq_true rfl)⟩) 7 7 rfl rfl rfl hl.1 rfl (Nat.le_of_ble_eq_true rfl) dX11_read_70 ⟨Nat.zero_le _, Nat.zero_le _⟩ (fun H locs hP hS => ?_)
        cases h
        exact rt_i C hP hS dX11_read_73
      · rw [if_neg c34] at h
        refine lv_iconst (v := (-1)) C.1 C.2.1 dX11_read_37 (by decide) ?_
        cases h
        exact rt_i C hP hS dX11_read_38
theorem metX11_read_0 (l : Launch) (D : va_G) (cy : Nat → ClassId) (ad st : Nat → Nat) (hJ : JX ad st) (sz : Nat) (x1 : Int32) (x2 : Int32) (x3 : Int32) (x4 : Int32) (x5 : Int32) (x6 : Int32) {u : SX} {r : Int32} {u' : SX} (h : fX11_read_0 x1 x2 x3 x4 x5 x6 u = some (r, u')) : Met l yX11_read wsX11_read rmX11_read_0 (va_Pc [.ref (ad 0), .int x1, .int x2, .int x3, .int x4, .int x5, .int x6] (Px D [(cy 0, .int), (cy 1, .long), (cy 2, .boolean), (cy 3, .byte), (cy 4, .object "HissHorn$Text")] st (VX cy ad st) sz u)) (Qi D (VX cy ad st) (AX ad) sz r u') 0 0 (Ax (AX ad) sz) := by
  refine Met.ofW (cc := cX11_read) (maxL := 7) (ret := (some .int)) (by decide) rfl ?_
  intro p e s m args below meth c s₁ B hml hv
  obtain ⟨rfl, hsz, hP, hK⟩ := hv
  subst hsz
  have C : Cx RX11 cX11_read 7 (some .int) wsX11_read p s m _ meth c := ⟨B.exec, B.bytes, hml, B.returns, findClass_of_methodNamed B.named, atoms_spec (ws := wsX11_read) B.pre, B.notSynchronized⟩
  have hl := lv_entry ([.ref (ad 0), .int x1, .int x2, .int x3, .int x4, .int x5, .int x6]) (n := 7) (Nat.le_of_ble_eq_true rfl)
  rw [lg_entry_eq]
  exact wX11_read_0 C hK hJ x1 x2 x3 x4 x5 x6 h hP va_S.rf hl

theorem zdX7_has_0 : (and (and (and (and (zk cX7_has 0 (.iload_n 1) 1) (zk cX7_has 1 (.ifCond .lt 15) 3)) (zk cX7_has 16 (.iconst 0) 1)) (and (zk cX7_has 17 (.ireturn) 1) (zk cX7_has 4 (.iload_n 1) 1))) (and (and (and (zk cX7_has 5 (.aload_n 0) 1) (zk cX7_has 6 (.getfield 45) 3)) (zk cX7_has 9 (.if_icmp .ge 7) 3)) (and (zk cX7_has 12 (.iconst 1) 1) (zk cX7_has 13 (.goto 4) 3)))) = true := by decide +kernel
theorem dX7_has_0 : decode cX7_has 0 = .ok (.iload_n 1, 1) := zk_of (zk_l (zk_l (zk_l (zk_l zdX7_has_0))))
theorem dX7_has_1 : decode cX7_has 1 = .ok (.ifCond .lt 15, 3) := zk_of (zk_r (zk_l (zk_l (zk_l zdX7_has_0))))
theorem dX7_has_16 : decode cX7_has 16 = .ok (.iconst 0, 1) := zk_of (zk_r (zk_l (zk_l zdX7_has_0)))
theorem dX7_has_17 : decode cX7_has 17 = .ok (.ireturn, 1) := zk_of (zk_l (zk_r (zk_l zdX7_has_0)))
theorem dX7_has_4 : decode cX7_has 4 = .ok (.iload_n 1, 1) := zk_of (zk_r (zk_r (zk_l zdX7_has_0)))
theorem dX7_has_5 : decode cX7_has 5 = .ok (.aload_n 0, 1) := zk_of (zk_l (zk_l (zk_l (zk_r zdX7_has_0))))
theorem dX7_has_6 : decode cX7_has 6 = .ok (.getfield 45, 3) := zk_of (zk_r (zk_l (zk_l (zk_r zdX7_has_0))))
theorem dX7_has_9 : decode cX7_has 9 = .ok (.if_icmp .ge 7, 3) := zk_of (zk_r (zk_l (zk_r zdX7_has_0)))
theorem dX7_has_12 : decode cX7_has 12 = .ok (.iconst 1, 1) := zk_of (zk_l (zk_r (zk_r zdX7_has_0)))
theorem dX7_has_13 : decode cX7_has 13 = .ok (.goto 4, 3) := zk_of (zk_r (zk_r (zk_r zdX7_has_0)))
/-- HissHorn$Readings.has(I)Z of cell 7 -/
def rmX7_has_7 : Room := { frames := 0, cells := 0, slots := 0, locals := 0 }
theorem hX7_has_7_X7 : ∀ w ∈ u_ws RX7 TX7 12, w ∈ wsX7_has := fun w h => (List.mem_cons_of_mem _ (List.mem_append_right _ h))
theorem mX7_has_7_1 : Cond.fieldLink RX7 45 "HissHorn$Readings" "size" "I" ∈ wsX7_has := (List.mem_cons_of_mem _ (List.mem_append_left _ (List.mem_of_getElem? (i := 0) rfl)))
def fX7_has_7 (x1 : Int32) (u : SX) : Option (Int32 × SX) := (if x1 < 0 then (gd (isB 0) (some (0, u))) else (if (u.1 13) ≤ x1 then (gd (isB 0) (some (0, u))) else (gd (isB 1) (some (1, u)))))
set_option maxHeartbeats 4000000 in
set_option maxRecDepth 100000 in
theorem wX7_has_7 {p : Program} {l : Launch} {e : Env} {s : State} {m : MethodId} {args : Array Value} {below : List Frame} {meth : Method} {c : Code} {D : va_G} {cy : Nat → ClassId} {ad st : Nat → Nat} (C : Cx RX7 cX7_has 2 (some .boolean) wsX7_has p s m args meth c) (hK : Ky D [(cy 0, .int), (cy 1, .long), (cy 2, .boolean), (cy 3, .byte), (cy 4, .object "HissHorn$Text")] st s) (hJ : JX ad st) (x1 : Int32) {u : SX} {r : Int32} {u' : SX} {H : Heap} {locs : List Loc} {ls : Array Slot} (h : fX7_has_7 x1 u = some (r, u')) (hP : va_P D vwCl (VX cy ad st u) H) (hS : va_S (Ax (AX ad) s.heap.size) s.heap H locs) (hl : lv_has ls 2 [(0, .ref (ad 7)), (1, .int x1)]) : W p l e rmX7_has_7 s m args below meth c H locs 0 0 (MQ below (Qi D (VX cy ad st) (AX ad) s.heap.size r u') args s 0 0 (Ax (AX ad) s.heap.size)) (F0 m 0 ls []) := by
  unfold fX7_has_7 at h
  refine lv_iload_n C.1 C.2.1 dX7_has_0 rfl (lv_at hl 1 rfl) ?_
  refine lv_if_lt (tgt := 16) C.1 C.2.1 dX7_has_1 (by decide) (fun c1 => ?_) (fun c1 => ?_)
  · rw [if_pos c1] at h
    refine lv_iconst (v := 0) C.1 C.2.1 dX7_has_16 (by decide) ?_
    obtain ⟨hg1, h⟩ := gd_some h
    cases h
    exact rt_z hg1 C hP hS dX7_has_17
  · rw [if_neg c1] at h
    refine lv_iload_n C.1 C.2.1 dX7_has_4 rfl (lv_at hl 1 rfl) ?_
    refine lv_aload_n C.1 C.2.1 dX7_has_5 rfl (lv_at hl 0 rfl) ?_
    refine gX_7_size C hX7_has_7_X7 hK hP mX7_has_7_1 dX7_has_6 ?_
    refine lv_icmp_ge (tgt := 16) C.1 C.2.1 dX7_has_9 (by decide) (fun c9 => ?_) (fun c9 => ?_)
    · rw [if_pos c9] at h
      refine lv_iconst (v := 0) C.1 C.2.1 dX7_has_16 (by decide) ?_
      obtain ⟨hg2, h⟩ := gd_some h
      cases h
      exact rt_z hg2 C hP hS dX7_has_17
    · rw [if_neg c9] at h
      refine lv_iconst (v := 1) C.1 C.2.1 dX7_has_12 (by decide) ?_
      refine lv_goto (tgt := 17) C.1 C.2.1 dX7_has_13 (by decide) ?_
      obtain ⟨hg3, h⟩ := gd_some h
      cases h
      exact rt_z hg3 C hP hS dX7_has_17
theorem metX7_has_7 (l : Launch) (D : va_G) (cy : Nat → ClassId) (ad st : Nat → Nat) (hJ : JX ad st) (sz : Nat) (x1 : Int32) {u : SX} {r : Int32} {u' : SX} (h : fX7_has_7 x1 u = some (r, u')) : Met l yX7_has wsX7_has rmX7_has_7 (va_Pc [.ref (ad 7), .int x1] (Px D [(cy 0, .int), (cy 1, .long), (cy 2, .boolean), (cy 3, .byte), (cy 4, .object "HissHorn$Text")] st (VX cy ad st) sz u)) (Qi D (VX cy ad st) (AX ad) sz r u') 0 0 (Ax (AX ad) sz) := by
  refine Met.ofW (cc := cX7_has) (maxL := 2) (ret := (some .boolean)) (by decide) rfl ?_
  intro p e s m args below meth c s₁ B hml hv
  obtain ⟨rfl, hsz, hP, hK⟩ := hv
  subst hsz
  have C : Cx RX7 cX7_has 2 (some .boolean) wsX7_has p s m _ meth c := ⟨B.exec, B.bytes, hml, B.returns, findClass_of_methodNamed B.named, atoms_spec (ws := wsX7_has) B.pre, B.notSynchronized⟩
  have hl := lv_entry ([.ref (ad 7), .int x1]) (n := 2) (Nat.le_of_ble_eq_true rfl)
  rw [lg_entry_eq]
  exact wX7_has_7 C hK hJ x1 h hP va_S.rf hl

/-- HissHorn.rowsUpTo(I[III)I -/
def rmX11_rowsUpTo_a37 : Room := { frames := 1, cells := 0, slots := 0, locals := 14 }
theorem mX11_rowsUpTo_a37_0 : Cond.methodLink RX11 400 Lib.Math.min.name ∈ wsX11_rowsUpTo := (List.mem_cons_of_mem _ (List.mem_of_getElem? (i := 0) rfl))
theorem mX11_rowsUpTo_a37_1 : Cond.static Lib.Math.min.name ∈ wsX11_rowsUpTo := (List.mem_cons_of_mem _ (List.mem_of_getElem? (i := 1) rfl))
theorem mX11_rowsUpTo_a37_2 : Cond.initialized "java/lang/Math" ∈ wsX11_rowsUpTo := (List.mem_cons_of_mem _ (List.mem_of_getElem? (i := 2) rfl))
theorem mX11_rowsUpTo_a37_3 : Cond.code Lib.Math.min.name Lib.Math.min.code 2 (some .int) ∈ wsX11_rowsUpTo := (List.mem_cons_of_mem _ (List.mem_of_getElem? (i := 3) rfl))
theorem mX11_rowsUpTo_a37_4 : Cond.methodLink RX11 403 Lib.Math.max.name ∈ wsX11_rowsUpTo := (List.mem_cons_of_mem _ (List.mem_of_getElem? (i := 4) rfl))
theorem mX11_rowsUpTo_a37_5 : Cond.static Lib.Math.max.name ∈ wsX11_rowsUpTo := (List.mem_cons_of_mem _ (List.mem_of_getElem? (i := 5) rfl))
theorem mX11_rowsUpTo_a37_6 : Cond.code Lib.Math.max.name Lib.Math.max.code 2 (some .int) ∈ wsX11_rowsUpTo := (List.mem_cons_of_mem _ (List.mem_of_getElem? (i := 6) rfl))
def LX11_rowsUpTo_a37_11 (k31 : Int32 → Int32 → SX → Option (Int32 × SX)) : Nat → Int32 → Int32 → Int32 → SX → Option (Int32 × SX)
  | 0, _, _, _, _ => none
  | n + 1, z0, z2, z4, u => (if z2 ≤ z4 then (k31 z0 z4 u) else (gd (inb z4 80) (if z0 < (u.2.1 37 z4.toNatClampNeg) then (k31 z0 z4 u) else ((LX11_rowsUpTo_a37_11 k31 n) z0 z2 (z4 + 1) u))))
def LX11_rowsUpTo_a37_31  : Nat → Int32 → Int32 → SX → Option (Int32 × SX)
  | 0, _, _, _ => none
  | n + 1, z0, z4, u => (if z4 ≤ 0 then (some (z4, u)) else (gd (inb (z4 - 1) 80) (if (u.2.1 37 (z4 - 1).toNatClampNeg) ≤ z0 then (some (z4, u)) else ((LX11_rowsUpTo_a37_31 n) z0 (z4 + (-1)) u))))
def fX11_rowsUpTo_a37 (x0 : Int32) (x2 : Int32) (x3 : Int32) (u : SX) : Option (Int32 × SX) := (lt (if 0 < (if x2 < x3 then x2 else x3) then (if x2 < x3 then x2 else x3) else 0) fun v1 => (LX11_rowsUpTo_a37_11 (LX11_rowsUpTo_a37_31  5000) 5000 x0 x2 v1 u))
set_option maxHeartbeats 4000000 in
set_option maxRecDepth 100000 in
theorem wLX11_rowsUpTo_a37_11 {p : Program} {l : Launch} {e : Env} {s : State} {m : MethodId} {args : Array Value} {below : List Frame} {meth : Method} {c : Code} {D : va_G} {cy : Nat → ClassId} {ad st : Nat → Nat} (C : Cx RX11 cX11_rowsUpTo 5 (some .int) wsX11_rowsUpTo p s m args meth c) (hK : Ky D [(cy 0, .int), (cy 1, .long), (cy 2, .boolean), (cy 3, .byte), (cy 4, .object "HissHorn$Text")] st s) (hJ : JX ad st) {r : Int32} {u' : SX} {k31 : Int32 → Int32 → SX → Option (Int32 × SX)} (hk31 : ∀ (z0 : Int32) (z4 : Int32) (u : SX) (H : Heap) (locs : List Loc) (ls : Array Slot), k31 z0 z4 u = some (r, u') → va_P D vwCl (VX cy ad st u) H → va_S (Ax (AX ad) s.heap.size) s.heap H locs → lv_has ls 5 [(0, .int z0), (1, .ref (ad 37)), (4, .int z4)] → W p l e rmX11_rowsUpTo_a37 s m args below meth c H locs 0 0 (MQ below (Qi D (VX cy ad st) (AX ad) s.heap.size r u') args s 0 0 (Ax (AX ad) s.heap.size)) (F0 m 31 ls [])) : ∀ (n : Nat) (z0 : Int32) (z2 : Int32) (z4 : Int32) (u : SX) (H : Heap) (locs : List Loc) (ls : Array Slot), LX11_rowsUpTo_a37_11 k31 n z0 z2 z4 u = some (r, u') → va_P D vwCl (VX cy ad st u) H → va_S (Ax (AX ad) s.heap.size) s.heap H locs → lv_has ls 5 [(0, .int z0), (1, .ref (ad 37)), (2, .int z2), (4, .int z4)] → W p l e rmX11_rowsUpTo_a37 s m args below meth c H locs 0 0 (MQ below (Qi D (VX cy ad st) (AX ad) s.heap.size r u') args s 0 0 (Ax (AX ad) s.heap.size)) (F0 m 11 ls []) := by
  intro n
  induction n with
  | zero =>
    intro z0 z2 z4 u H locs ls h
    exact absurd h (by intro q; cases q)
  | succ n ih =>
    intro z0 z2 z4 u H locs ls h hP hS hl
    rw [LX11_rowsUpTo_a37_11] at h
    refine lv_iload C.1 C.2.1 dX11_rowsUpTo_11 (lv_at hl 3 rfl) ?_
    refine lv_iload_n C.1 C.2.1 dX11_rowsUpTo_13 rfl (lv_at hl 2 rfl) ?_
    refine lv_icmp_ge (tgt := 31) C.1 C.2.1 dX11_rowsUpTo_14 (by decide) (fun c14 => ?_) (fun c14 => ?_)
    · rw [if_pos c14] at h
      exact hk31 _ _ _ _ _ _ h hP hS (lv_sub hl [0, 1, 3] rfl)
    · rw [if_neg c14] at h
      refine lv_aload_n C.1 C.2.1 dX11_rowsUpTo_17 rfl (lv_at hl 1 rfl) ?_
      refine lv_iload C.1 C.2.1 dX11_rowsUpTo_18 (lv_at hl 3 rfl) ?_
      obtain ⟨hg3, h⟩ := gd_some h
      refine lX_37 C hK hP hg3 dX11_rowsUpTo_20 ?_
      refine lv_iload_n C.1 C.2.1 dX11_rowsUpTo_21 rfl (lv_at hl 0 rfl) ?_
      refine lv_icmp_gt (tgt := 31) C.1 C.2.1 dX11_rowsUpTo_22 (by decide) (fun c22 => ?_) (fun c22 => ?_)
      · rw [if_pos c22] at h
        exact hk31 _ _ _ _ _ _ h hP hS (lv_sub hl [0, 1, 3] rfl)
      · rw [if_neg c22] at h
        refine lv_iinc (v := z4 + 1) (lv' := [(4, .int (z4 + 1)), (0, .int z0), (1, .ref (ad 37)), (2, .int z2)]) C.1 C.2.1 dX11_rowsUpTo_25 hl (k := 3) rfl rfl (by decide) rfl (fun ls hl => ?_)
        replace hl := lv_sub (l' := [(0, .int z0), (1, .ref (ad 37)), (2, .int z2), (4, .int (z4 + 1))]) hl [1, 2, 3, 0] rfl
        refine lv_goto (tgt := 11) C.1 C.2.1 dX11_rowsUpTo_28 (by decide) ?_
        exact ih _ _ _ _ _ _ _ h hP hS hl
set_option maxHeartbeats 4000000 in
set_option maxRecDepth 100000 in
theorem wLX11_rowsUpTo_a37_31 {p : Program} {l : Launch} {e : Env} {s : State} {m : MethodId} {args : Array Value} {below : List Frame} {meth : Method} {c : Code} {D : va_G} {cy : Nat → ClassId} {ad st : Nat → Nat} (C : Cx RX11 cX11_rowsUpTo 5 (some .int) wsX11_rowsUpTo p s m args meth c) (hK : Ky D [(cy 0, .int), (cy 1, .long), (cy 2, .boolean), (cy 3, .byte), (cy 4, .object "HissHorn$Text")] st s) (hJ : JX ad st) {r : Int32} {u' : SX}   : ∀ (n : Nat) (z0 : Int32) (z4 : Int32) (u : SX) (H : Heap) (locs : List Loc) (ls : Array Slot), LX11_rowsUpTo_a37_31  n z0 z4 u = some (r, u') → va_P D vwCl (VX cy ad st u) H → va_S (Ax (AX ad) s.heap.size) s.heap H locs → lv_has ls 5 [(0, .int z0), (1, .ref (ad 37)), (4, .int z4)] → W p l e rmX11_rowsUpTo_a37 s m args below meth c H locs 0 0 (MQ below (Qi D (VX cy ad st) (AX ad) s.heap.size r u') args s 0 0 (Ax (AX ad) s.heap.size)) (F0 m 31 ls []) := by
  intro n
  induction n with
  | zero =>
    intro z0 z4 u H locs ls h
    exact absurd h (by intro q; cases q)
  | succ n ih =>
    intro z0 z4 u H locs ls h hP hS hl
    rw [LX11_rowsUpTo_a37_31] at h
    refine lv_iload C.1 C.2.1 dX11_rowsUpTo_31 (lv_at hl 2 rfl) ?_
    refine lv_if_le (tgt := 52) C.1 C.2.1 dX11_rowsUpTo_33 (by decide) (fun c33 => ?_) (fun c33 => ?_)
    · rw [if_pos c33] at h
      refine lv_iload C.1 C.2.1 dX11_rowsUpTo_52 (lv_at hl 2 rfl) ?_
      cases h
      exact rt_i C hP hS dX11_rowsUpTo_54
    · rw [if_neg c33] at h
      refine lv_aload_n C.1 C.2.1 dX11_rowsUpTo_36 rfl (lv_at hl 1 rfl) ?_
      refine lv_iload C.1 C.2.1 dX11_rowsUpTo_37 (lv_at hl 2 rfl) ?_
      refine lv_iconst (v := 1) C.1 C.2.1 dX11_rowsUpTo_39 (by decide) ?_
      refine lv_isub C.1 C.2.1 dX11_rowsUpTo_40 ?_
      obtain ⟨hg4, h⟩ := gd_some h
      refine lX_37 C hK hP hg4 dX11_rowsUpTo_41 ?_
      refine lv_iload_n C.1 C.2.1 dX11_rowsUpTo_42 rfl (lv_at hl 0 rfl) ?_
      refine lv_icmp_le (tgt := 52) C.1 C.2.1 dX11_rowsUpTo_43 (by decide) (fun c43 => ?_) (fun c43 => ?_)
      · rw [if_pos c43] at h
        refine lv_iload C.1 C.2.1 dX11_rowsUpTo_52 (lv_at hl 2 rfl) ?_
        cases h
        exact rt_i C hP hS dX11_rowsUpTo_54
      · rw [if_neg c43] at h
        refine lv_iinc (v := z4 + (-1)) (lv' := [(4, .int (z4 + (-1))), (0, .int z0), (1, .ref (ad 37))]) C.1 C.2.1 dX11_rowsUpTo_46 hl (k := 2) rfl rfl (by decide) rfl (fun ls hl => ?_)
        replace hl := lv_sub (l' := [(0, .int z0), (1, .ref (ad 37)), (4, .int (z4 + (-1)))]) hl [1, 2, 0] rfl
        refine lv_goto (tgt := 31) C.1 C.2.1 dX11_rowsUpTo_49 (by decide) ?_
        exact ih _ _ _ _ _ _ h hP hS hl
set_option maxHeartbeats 4000000 in
set_option maxRecDepth 100000 in
theorem wX11_rowsUpTo_a37 {p : Program} {l : Launch} {e : Env} {s : State} {m : MethodId} {args : Array Value} {below : List Frame} {meth : Method} {c : Code} {D : va_G} {cy : Nat → ClassId} {ad st : Nat → Nat} (C : Cx RX11 cX11_rowsUpTo 5 (some .int) wsX11_rowsUpTo p s m args meth c) (hK : Ky D [(cy 0, .int), (cy 1, .long), (cy 2, .boolean), (cy 3, .byte), (cy 4, .object "HissHorn$Text")] st s) (hJ : JX ad st) (x0 : Int32) (x2 : Int32) (x3 : Int32) {u : SX} {r : Int32} {u' : SX} {H : Heap} {locs : List Loc} {ls : Array Slot} (h : fX11_rowsUpTo_a37 x0 x2 x3 u = some (r, u')) (hP : va_P D vwCl (VX cy ad st u) H) (hS : va_S (Ax (AX ad) s.heap.size) s.heap H locs) (hl : lv_has ls 5 [(0, .int x0), (1, .ref (ad 37)), (2, .int x2), (3, .int x3)]) : W p l e rmX11_rowsUpTo_a37 s m args below meth c H locs 0 0 (MQ below (Qi D (VX cy ad st) (AX ad) s.heap.size r u') args s 0 0 (Ax (AX ad) s.heap.size)) (F0 m 0 ls []) := by
  unfold fX11_rowsUpTo_a37 at h
  refine lv_iconst (v := 0) C.1 C.2.1 dX11_rowsUpTo_0 (by decide) ?_
  refine lv_iload_n C.1 C.2.1 dX11_rowsUpTo_1 rfl (lv_at hl 3 rfl) ?_
  refine lv_iload_n C.1 C.2.1 dX11_rowsUpTo_2 rfl (lv_at hl 2 rfl) ?_
  refine va_mmin C.1 C.2.1 (C.2.2.1.trans hl.1.symm) C.2.2.2.2.1 (C.2.2.2.2.2.1 _ mX11_rowsUpTo_a37_0) (C.2.2.2.2.2.1 _ mX11_rowsUpTo_a37_1) (C.2.2.2.2.2.1 _ mX11_rowsUpTo_a37_2) (C.2.2.2.2.2.1 _ mX11_rowsUpTo_a37_3) (Nat.le_of_ble_eq_true rfl) (Nat.le_of_ble_eq_true rfl) (Nat.zero_le _) (Nat.zero_le _) dX11_rowsUpTo_3 ?_
  refine va_mmax C.1 C.2.1 (C.2.2.1.trans hl.1.symm) C.2.2.2.2.1 (C.2.2.2.2.2.1 _ mX11_rowsUpTo_a37_4) (C.2.2.2.2.2.1 _ mX11_rowsUpTo_a37_5) (C.2.2.2.2.2.1 _ mX11_rowsUpTo_a37_2) (C.2.2.2.2.2.1 _ mX11_rowsUpTo_a37_6) (Nat.le_of_ble_eq_true rfl) (Nat.le_of_ble_eq_true rfl) (Nat.zero_le _) (Nat.zero_le _) dX11_rowsUpTo_6 ?_
  refine lv_topi (fun v1 hv2 => ?_)
  replace h := lt_e hv2 h
  try dsimp only at h
  refine lv_istore (lv' := [(4, .int v1), (0, .int x0), (1, .ref (ad 37)), (2, .int x2), (3, .int x3)]) C.1 C.2.1 dX11_rowsUpTo_9 hl (by decide) rfl (fun ls hl => ?_)
  replace hl := lv_sub (l' := [(0, .int x0), (1, .ref (ad 37)), (2, .int x2), (3, .int x3), (4, .int v1)]) hl [1, 2, 3, 4, 0] rfl
  exact wLX11_rowsUpTo_a37_11 C hK hJ (wLX11_rowsUpTo_a37_31 C hK hJ  5000) 5000 _ _ _ _ _ _ _ h hP hS (lv_sub hl [0, 1, 2, 4] rfl)
theorem metX11_rowsUpTo_a37 (l : Launch) (D : va_G) (cy : Nat → ClassId) (ad st : Nat → Nat) (hJ : JX ad st) (sz : Nat) (x0 : Int32) (x2 : Int32) (x3 : Int32) {u : SX} {r : Int32} {u' : SX} (h : fX11_rowsUpTo_a37 x0 x2 x3 u = some (r, u')) : Met l yX11_rowsUpTo wsX11_rowsUpTo rmX11_rowsUpTo_a37 (va_Pc [.int x0, .ref (ad 37), .int x2, .int x3] (Px D [(cy 0, .int), (cy 1, .long), (cy 2, .boolean), (cy 3, .byte), (cy 4, .object "HissHorn$Text")] st (VX cy ad st) sz u)) (Qi D (VX cy ad st) (AX ad) sz r u') 0 0 (Ax (AX ad) sz) := by
  refine Met.ofW (cc := cX11_rowsUpTo) (maxL := 5) (ret := (some .int)) (by decide) rfl ?_
  intro p e s m args below meth c s₁ B hml hv
  obtain ⟨rfl, hsz, hP, hK⟩ := hv
  subst hsz
  have C : Cx RX11 cX11_rowsUpTo 5 (some .int) wsX11_rowsUpTo p s m _ meth c := ⟨B.exec, B.bytes, hml, B.returns, findClass_of_methodNamed B.named, atoms_spec (ws := wsX11_rowsUpTo) B.pre, B.notSynchronized⟩
  have hl := lv_entry ([.int x0, .ref (ad 37), .int x2, .int x3]) (n := 5) (Nat.le_of_ble_eq_true rfl)
  rw [lg_entry_eq]
  exact wX11_rowsUpTo_a37 C hK hJ x0 x2 x3 h hP va_S.rf hl

theorem zdX7_leanOf_0 : (and (and (and (and (and (zk cX7_leanOf 0 (.aload_n 0) 1) (zk cX7_leanOf 1 (.getfield 34) 3)) (and (zk cX7_leanOf 4 (.getfield 107) 3) (zk cX7_leanOf 7 (.iload_n 2) 1))) (and (and (zk cX7_leanOf 8 (.iaload) 1) (zk cX7_leanOf 9 (.istore_n 3) 1)) (and (zk cX7_leanOf 10 (.iload_n 1) 1) (zk cX7_leanOf 11 (.bipush 12) 2)))) (and (and (and (zk cX7_leanOf 13 (.imul) 1) (zk cX7_leanOf 14 (.iload_n 3) 1)) (and (zk cX7_leanOf 15 (.iadd) 1) (zk cX7_leanOf 16 (.istore 4) 2))) (and (and (zk cX7_leanOf 18 (.aload_n 0) 1) (zk cX7_leanOf 19 (.getfield 27) 3)) (and (zk cX7_leanOf 22 (.iload 4) 2) (zk cX7_leanOf 24 (.iaload) 1))))) (and (and (and (and (zk cX7_leanOf 25 (.ldc 38) 2) (zk cX7_leanOf 27 (.if_icmp .ne 39) 3)) (and (zk cX7_leanOf 66 (.aload_n 0) 1) (zk cX7_leanOf 67 (.getfield 27) 3))) (and (and (zk cX7_leanOf 70 (.iload 4) 2) (zk cX7_leanOf 72 (.iaload) 1)) (and (zk cX7_leanOf 73 (.ireturn) 1) (zk cX7_leanOf 30 (.aload_n 0) 1)))) (and (and (and (zk cX7_leanOf 31 (.getfield 9) 3) (zk cX7_leanOf 34 (.iload_n 1) 1)) (and (zk cX7_leanOf 35 (.bipush 6) 2) (zk cX7_leanOf 37 (.imul) 1))) (and (and (zk cX7_leanOf 38 (.aload_n 0) 1) (zk cX7_leanOf 39 (.getfield 30) 3)) (and (zk cX7_leanOf 42 (.getfield 49) 3) (zk cX7_leanOf 45 (.iconst 0) 1)))))) = true := by decide +kernel
theorem dX7_leanOf_0 : decode cX7_leanOf 0 = .ok (.aload_n 0, 1) := zk_of (zk_l (zk_l (zk_l (zk_l (zk_l zdX7_leanOf_0)))))
theorem dX7_leanOf_1 : decode cX7_leanOf 1 = .ok (.getfield 34, 3) := zk_of (zk_r (zk_l (zk_l (zk_l (zk_l zdX7_leanOf_0)))))
theorem dX7_leanOf_4 : decode cX7_leanOf 4 = .ok (.getfield 107, 3) := zk_of (zk_l (zk_r (zk_l (zk_l (zk_l zdX7_leanOf_0)))))
theorem dX7_leanOf_7 : decode cX7_leanOf 7 = .ok (.iload_n 2, 1) := zk_of (zk_r (zk_r (zk_l (zk_l (zk_l zdX7_leanOf_0)))))
theorem dX7_leanOf_8 : decode cX7_leanOf 8 = .ok (.iaload, 1) := zk_of (zk_l (zk_l (zk_r (zk_l (zk_l zdX7_leanOf_0)))))
theorem dX7_leanOf_9 : decode cX7_leanOf 9 = .ok (.istore_n 3, 1) := zk_of (zk_r (zk_l (zk_r (zk_l (zk_l zdX7_leanOf_0)))))
theorem dX7_leanOf_10 : decode cX7_leanOf 10 = .ok (.iload_n 1, 1) := zk_of (zk_l (zk_r (zk_r (zk_l (zk_l zdX7_leanOf_0)))))
theorem dX7_leanOf_11 : decode cX7_leanOf 11 = .ok (.bipush 12, 2) := zk_of (zk_r (zk_r (zk_r (zk_l (zk_l zdX7_leanOf_0)))))
theorem dX7_leanOf_13 : decode cX7_leanOf 13 = .ok (.imul, 1) := zk_of (zk_l (zk_l (zk_l (zk_r (zk_l zdX7_leanOf_0)))))
theorem dX7_leanOf_14 : decode cX7_leanOf 14 = .ok (.iload_n 3, 1) := zk_of (zk_r (zk_l (zk_l (zk_r (zk_l zdX7_leanOf_0)))))
theorem dX7_leanOf_15 : decode cX7_leanOf 15 = .ok (.iadd, 1) := zk_of (zk_l (zk_r (zk_l (zk_r (zk_l zdX7_leanOf_0)))))
theorem dX7_leanOf_16 : decode cX7_leanOf 16 = .ok (.istore 4, 2) := zk_of (zk_r (zk_r (zk_l (zk_r (zk_l zdX7_leanOf_0)))))
theorem dX7_leanOf_18 : decode cX7_leanOf 18 = .ok (.aload_n 0, 1) := zk_of (zk_l (zk_l (zk_r (zk_r (zk_l zdX7_leanOf_0)))))
theorem dX7_leanOf_19 : decode cX7_leanOf 19 = .ok (.getfield 27, 3) := zk_of (zk_r (zk_l (zk_r (zk_r (zk_l zdX7_leanOf_0)))))
theorem dX7_leanOf_22 : decode cX7_leanOf 22 = .ok (.iload 4, 2) := zk_of (zk_l (zk_r (zk_r (zk_r (zk_l zdX7_leanOf_0)))))
theorem dX7_leanOf_24 : decode cX7_leanOf 24 = .ok (.iaload, 1) := zk_of (zk_r (zk_r (zk_r (zk_r (zk_l zdX7_leanOf_0)))))
theorem dX7_leanOf_25 : decode cX7_leanOf 25 = .ok (.ldc 38, 2) := zk_of (zk_l (zk_l (zk_l (zk_l (zk_r zdX7_leanOf_0)))))
theorem dX7_leanOf_27 : decode cX7_leanOf 27 = .ok (.if_icmp .ne 39, 3) := zk_of (zk_r (zk_l (zk_l (zk_l (zk_r zdX7_leanOf_0)))))
theorem dX7_leanOf_66 : decode cX7_leanOf 66 = .ok (.aload_n 0, 1) := zk_of (zk_l (zk_r (zk_l (zk_l (zk_r zdX7_leanOf_0)))))
theorem dX7_leanOf_67 : decode cX7_leanOf 67 = .ok (.getfield 27, 3) := zk_of (zk_r (zk_r (zk_l (zk_l (zk_r zdX7_leanOf_0)))))
theorem dX7_leanOf_70 : decode cX7_leanOf 70 = .ok (.iload 4, 2) := zk_of (zk_l (zk_l (zk_r (zk_l (zk_r zdX7_leanOf_0)))))
theorem dX7_leanOf_72 : decode cX7_leanOf 72 = .ok (.iaload, 1) := zk_of (zk_r (zk_l (zk_r (zk_l (zk_r zdX7_leanOf_0)))))
theorem dX7_leanOf_73 : decode cX7_leanOf 73 = .ok (.ireturn, 1) := zk_of (zk_l (zk_r (zk_r (zk_l (zk_r zdX7_leanOf_0)))))
theorem dX7_leanOf_30 : decode cX7_leanOf 30 = .ok (.aload_n 0, 1) := zk_of (zk_r (zk_r (zk_r (zk_l (zk_r zdX7_leanOf_0)))))
theorem dX7_leanOf_31 : decode cX7_leanOf 31 = .ok (.getfield 9, 3) := zk_of (zk_l (zk_l (zk_l (zk_r (zk_r zdX7_leanOf_0)))))
theorem dX7_leanOf_34 : decode cX7_leanOf 34 = .ok (.iload_n 1, 1) := zk_of (zk_r (zk_l (zk_l (zk_r (zk_r zdX7_leanOf_0)))))
theorem dX7_leanOf_35 : decode cX7_leanOf 35 = .ok (.bipush 6, 2) := zk_of (zk_l (zk_r (zk_l (zk_r (zk_r zdX7_leanOf_0)))))
theorem dX7_leanOf_37 : decode cX7_leanOf 37 = .ok (.imul, 1) := zk_of (zk_r (zk_r (zk_l (zk_r (zk_r zdX7_leanOf_0)))))
theorem dX7_leanOf_38 : decode cX7_leanOf 38 = .ok (.aload_n 0, 1) := zk_of (zk_l (zk_l (zk_r (zk_r (zk_r zdX7_leanOf_0)))))
theorem dX7_leanOf_39 : decode cX7_leanOf 39 = .ok (.getfield 30, 3) := zk_of (zk_r (zk_l (zk_r (zk_r (zk_r zdX7_leanOf_0)))))
theorem dX7_leanOf_42 : decode cX7_leanOf 42 = .ok (.getfield 49, 3) := zk_of (zk_l (zk_r (zk_r (zk_r (zk_r zdX7_leanOf_0)))))
theorem dX7_leanOf_45 : decode cX7_leanOf 45 = .ok (.iconst 0, 1) := zk_of (zk_r (zk_r (zk_r (zk_r (zk_r zdX7_leanOf_0)))))
theorem zdX7_leanOf_46 : (and (and (and (and (zk cX7_leanOf 46 (.bipush 6) 2) (zk cX7_leanOf 48 (.invokestatic 54) 3)) (zk cX7_leanOf 51 (.aload_n 0) 1)) (and (zk cX7_leanOf 52 (.getfield 27) 3) (zk cX7_leanOf 55 (.iload 4) 2))) (and (and (and (zk cX7_leanOf 57 (.aload_n 0) 1) (zk cX7_leanOf 58 (.getfield 30) 3)) (zk cX7_leanOf 61 (.iload_n 3) 1)) (and (zk cX7_leanOf 62 (.invokevirtual 110) 3) (zk cX7_leanOf 65 (.iastore) 1)))) = true := by decide +kernel
theorem dX7_leanOf_46 : decode cX7_leanOf 46 = .ok (.bipush 6, 2) := zk_of (zk_l (zk_l (zk_l (zk_l zdX7_leanOf_46))))
theorem dX7_leanOf_48 : decode cX7_leanOf 48 = .ok (.invokestatic 54, 3) := zk_of (zk_r (zk_l (zk_l (zk_l zdX7_leanOf_46))))
theorem dX7_leanOf_51 : decode cX7_leanOf 51 = .ok (.aload_n 0, 1) := zk_of (zk_r (zk_l (zk_l zdX7_leanOf_46)))
theorem dX7_leanOf_52 : decode cX7_leanOf 52 = .ok (.getfield 27, 3) := zk_of (zk_l (zk_r (zk_l zdX7_leanOf_46)))
theorem dX7_leanOf_55 : decode cX7_leanOf 55 = .ok (.iload 4, 2) := zk_of (zk_r (zk_r (zk_l zdX7_leanOf_46)))
theorem dX7_leanOf_57 : decode cX7_leanOf 57 = .ok (.aload_n 0, 1) := zk_of (zk_l (zk_l (zk_l (zk_r zdX7_leanOf_46))))
theorem dX7_leanOf_58 : decode cX7_leanOf 58 = .ok (.getfield 30, 3) := zk_of (zk_r (zk_l (zk_l (zk_r zdX7_leanOf_46))))
theorem dX7_leanOf_61 : decode cX7_leanOf 61 = .ok (.iload_n 3, 1) := zk_of (zk_r (zk_l (zk_r zdX7_leanOf_46)))
theorem dX7_leanOf_62 : decode cX7_leanOf 62 = .ok (.invokevirtual 110, 3) := zk_of (zk_l (zk_r (zk_r zdX7_leanOf_46)))
theorem dX7_leanOf_65 : decode cX7_leanOf 65 = .ok (.iastore, 1) := zk_of (zk_r (zk_r (zk_r zdX7_leanOf_46)))
set_option maxRecDepth 20000 in
theorem ggX7_leanOf_X8_ask : GoodIn wsX7_leanOf wsX8_ask := goodIn_r _ [16, 17, 18, 19, 20, 21, 22, 15, 23, 24, 25, 26, 27, 28, 29, 30, 31, 32, 33, 34, 35, 36, 37, 38, 39, 40, 41, 42, 43, 44, 45, 75, 76, 77, 78, 79, 80] rfl (by decide +kernel)
set_option maxRecDepth 20000 in
theorem gX7_leanOf_X8_ask : GoodIn wsX7_leanOf (wsV RX7 110 RX8 yX8_ask wsX8_ask) := goodIn_app (goodIn_of _ (by decide +kernel)) ggX7_leanOf_X8_ask
/-- HissHorn$Readings.leanOf(II)I of cell 7 -/
def rmX7_leanOf_7 : Room := { frames := 4, cells := 0, slots := 0, locals := 87 }
theorem hX7_leanOf_7_X7 : ∀ w ∈ u_ws RX7 TX7 12, w ∈ wsX7_leanOf := fun w h => (List.mem_cons_of_mem _ (List.mem_append_left _ (List.mem_append_left _ (List.mem_append_left _ (List.mem_append_right _ h)))))
theorem mX7_leanOf_7_1 : Cond.fieldLink RX7 34 "HissHorn$Readings" "parts" "LHissHorn$Parts;" ∈ wsX7_leanOf := (List.mem_cons_of_mem _ (List.mem_append_left _ (List.mem_append_left _ (List.mem_append_left _ (List.mem_append_left _ (List.mem_append_left _ (List.mem_of_getElem? (i := 0) rfl)))))))
theorem hX7_leanOf_7_X6 : ∀ w ∈ u_ws RX6 TX6 17, w ∈ wsX7_leanOf := fun w h => (List.mem_cons_of_mem _ (List.mem_append_left _ (List.mem_append_left _ (List.mem_append_right _ h))))
theorem mX7_leanOf_7_3 : Cond.fieldLink RX7 107 "HissHorn$Parts" "law" "[I" ∈ wsX7_leanOf := (List.mem_cons_of_mem _ (List.mem_append_left _ (List.mem_append_left _ (List.mem_append_left _ (List.mem_append_left _ (List.mem_append_left _ (List.mem_of_getElem? (i := 1) rfl)))))))
theorem mX7_leanOf_7_4 : Cond.fieldLink RX7 27 "HissHorn$Readings" "worths" "[I" ∈ wsX7_leanOf := (List.mem_cons_of_mem _ (List.mem_append_left _ (List.mem_append_left _ (List.mem_append_left _ (List.mem_append_left _ (List.mem_append_left _ (List.mem_of_getElem? (i := 2) rfl)))))))
theorem mX7_leanOf_7_5 : Cond.constant RX7 38 (-100000000) ∈ wsX7_leanOf := (List.mem_cons_of_mem _ (List.mem_append_left _ (List.mem_append_left _ (List.mem_append_left _ (List.mem_append_left _ (List.mem_append_left _ (List.mem_of_getElem? (i := 3) rfl)))))))
theorem mX7_leanOf_7_6 : Cond.fieldLink RX7 9 "HissHorn$Readings" "aims" "[I" ∈ wsX7_leanOf := (List.mem_cons_of_mem _ (List.mem_append_left _ (List.mem_append_left _ (List.mem_append_left _ (List.mem_append_left _ (List.mem_append_left _ (List.mem_of_getElem? (i := 4) rfl)))))))
theorem mX7_leanOf_7_7 : Cond.fieldLink RX7 30 "HissHorn$Readings" "laws" "LHissHorn$Shelf;" ∈ wsX7_leanOf := (List.mem_cons_of_mem _ (List.mem_append_left _ (List.mem_append_left _ (List.mem_append_left _ (List.mem_append_left _ (List.mem_append_left _ (List.mem_of_getElem? (i := 5) rfl)))))))
theorem hX7_leanOf_7_X8 : ∀ w ∈ u_ws RX8 TX8 5, w ∈ wsX7_leanOf := fun w h => (List.mem_cons_of_mem _ (List.mem_append_left _ (List.mem_append_right _ h)))
theorem mX7_leanOf_7_9 : Cond.fieldLink RX7 49 "HissHorn$Shelf" "values" "[I" ∈ wsX7_leanOf := (List.mem_cons_of_mem _ (List.mem_append_left _ (List.mem_append_left _ (List.mem_append_left _ (List.mem_append_left _ (List.mem_append_left _ (List.mem_of_getElem? (i := 6) rfl)))))))
theorem mX7_leanOf_7_10 : Cond.methodLink RX7 54 arraycopyName ∈ wsX7_leanOf := (List.mem_cons_of_mem _ (List.mem_append_left _ (List.mem_append_left _ (List.mem_append_left _ (List.mem_append_left _ (List.mem_append_left _ (List.mem_of_getElem? (i := 7) rfl)))))))
theorem mX7_leanOf_7_11 : Cond.native arraycopyName ∈ wsX7_leanOf := (List.mem_cons_of_mem _ (List.mem_append_left _ (List.mem_append_left _ (List.mem_append_left _ (List.mem_append_left _ (List.mem_append_left _ (List.mem_of_getElem? (i := 8) rfl)))))))
theorem mX7_leanOf_7_12 : Cond.static arraycopyName ∈ wsX7_leanOf := (List.mem_cons_of_mem _ (List.mem_append_left _ (List.mem_append_left _ (List.mem_append_left _ (List.mem_append_left _ (List.mem_append_left _ (List.mem_of_getElem? (i := 9) rfl)))))))
theorem mX7_leanOf_7_13 : Cond.initialized "java/lang/System" ∈ wsX7_leanOf := (List.mem_cons_of_mem _ (List.mem_append_left _ (List.mem_append_left _ (List.mem_append_left _ (List.mem_append_left _ (List.mem_append_left _ (List.mem_of_getElem? (i := 10) rfl)))))))
def fX7_leanOf_7 (x1 : Int32) (x2 : Int32) (u : SX) : Option (Int32 × SX) := (gd (inb x2 12) (lt (u.2.1 24 x2.toNatClampNeg) fun v2 => (lt ((x1 * 12) + v2) fun v4 => (gd (inb v4 960) (if (u.2.1 41 v4.toNatClampNeg) = (-100000000) then (gd (cpok (x1 * 6) 0 6 480 6) (lt (sA u 16 (va_cpy (u.2.1 36) (u.2.1 16) (x1 * 6).toNatClampNeg (0 : Int32).toNatClampNeg (6 : Int32).toNatClampNeg)) fun u9 => ((fX8_ask_3 v2 u9).bind fun q => match q with | (r11, u12) => (gd (inb v4 960) (lt (sA u12 41 (upd (u12.2.1 41) v4.toNatClampNeg r11)) fun u15 => (gd (inb v4 960) (some (u15.2.1 41 v4.toNatClampNeg, u15)))))))) else (gd (inb v4 960) (some (u.2.1 41 v4.toNatClampNeg, u))))))))
set_option maxHeartbeats 4000000 in
set_option maxRecDepth 100000 in
theorem wX7_leanOf_7 {p : Program} {l : Launch} {e : Env} {s : State} {m : MethodId} {args : Array Value} {below : List Frame} {meth : Method} {c : Code} {D : va_G} {cy : Nat → ClassId} {ad st : Nat → Nat} (C : Cx RX7 cX7_leanOf 5 (some .int) wsX7_leanOf p s m args meth c) (hK : Ky D [(cy 0, .int), (cy 1, .long), (cy 2, .boolean), (cy 3, .byte), (cy 4, .object "HissHorn$Text")] st s) (hJ : JX ad st) (x1 : Int32) (x2 : Int32) {u : SX} {r : Int32} {u' : SX} {H : Heap} {locs : List Loc} {ls : Array Slot} (h : fX7_leanOf_7 x1 x2 u = some (r, u')) (hP : va_P D vwCl (VX cy ad st u) H) (hS : va_S (Ax (AX ad) s.heap.size) s.heap H locs) (hl : lv_has ls 5 [(0, .ref (ad 7)), (1, .int x1), (2, .int x2)]) : W p l e rmX7_leanOf_7 s m args below meth c H locs 0 0 (MQ below (Qi D (VX cy ad st) (AX ad) s.heap.size r u') args s 0 0 (Ax (AX ad) s.heap.size)) (F0 m 0 ls []) := by
  unfold fX7_leanOf_7 at h
  refine lv_aload_n C.1 C.2.1 dX7_leanOf_0 rfl (lv_at hl 0 rfl) ?_
  refine gX_7_parts C hX7_leanOf_7_X7 hK hP mX7_leanOf_7_1 dX7_leanOf_1 ?_
  refine gX_6_law C hX7_leanOf_7_X6 hK hP mX7_leanOf_7_3 dX7_leanOf_4 ?_
  refine lv_iload_n C.1 C.2.1 dX7_leanOf_7 rfl (lv_at hl 2 rfl) ?_
  obtain ⟨hg1, h⟩ := gd_some h
  refine lX_24 C hK hP hg1 dX7_leanOf_8 ?_
  refine lv_topi (fun v2 hv3 => ?_)
  replace h := lt_e hv3 h
  try dsimp only at h
  refine lv_istore_n (lv' := [(3, .int v2), (0, .ref (ad 7)), (1, .int x1), (2, .int x2)]) C.1 C.2.1 dX7_leanOf_9 rfl hl (by decide) rfl (fun ls hl => ?_)
  replace hl := lv_sub (l' := [(0, .ref (ad 7)), (1, .int x1), (2, .int x2), (3, .int v2)]) hl [1, 2, 3, 0] rfl
  refine lv_iload_n C.1 C.2.1 dX7_leanOf_10 rfl (lv_at hl 1 rfl) ?_
  refine lv_bipush (v := 12) C.1 C.2.1 dX7_leanOf_11 (by decide) ?_
  refine lv_imul C.1 C.2.1 dX7_leanOf_13 ?_
  refine lv_iload_n C.1 C.2.1 dX7_leanOf_14 rfl (lv_at hl 3 rfl) ?_
  refine lv_iadd C.1 C.2.1 dX7_leanOf_15 ?_
  refine lv_topi (fun v4 hv5 => ?_)
  replace h := lt_e hv5 h
  try dsimp only at h
  refine lv_istore (lv' := [(4, .int v4), (0, .ref (ad 7)), (1, .int x1), (2, .int x2), (3, .int v2)]) C.1 C.2.1 dX7_leanOf_16 hl (by decide) rfl (fun ls hl => ?_)
  replace hl := lv_sub (l' := [(0, .ref (ad 7)), (1, .int x1), (2, .int x2), (3, .int v2), (4, .int v4)]) hl [1, 2, 3, 4, 0] rfl
  refine lv_aload_n C.1 C.2.1 dX7_leanOf_18 rfl (lv_at hl 0 rfl) ?_
  refine gX_7_worths C hX7_leanOf_7_X7 hK hP mX7_leanOf_7_4 dX7_leanOf_19 ?_
  refine lv_iload C.1 C.2.1 dX7_leanOf_22 (lv_at hl 4 rfl) ?_
  obtain ⟨hg6, h⟩ := gd_some h
  refine lX_41 C hK hP hg6 dX7_leanOf_24 ?_
  refine lv_ldc C.1 C.2.1 C.2.2.2.2.1 (C.2.2.2.2.2.1 _ mX7_leanOf_7_5) dX7_leanOf_25 ?_
  refine lv_icmp_ne (tgt := 66) C.1 C.2.1 dX7_leanOf_27 (by decide) (fun c27 => ?_) (fun c27 => ?_)
  · rw [if_neg c27] at h
    refine lv_aload_n C.1 C.2.1 dX7_leanOf_66 rfl (lv_at hl 0 rfl) ?_
    refine gX_7_worths C hX7_leanOf_7_X7 hK hP mX7_leanOf_7_4 dX7_leanOf_67 ?_
    refine lv_iload C.1 C.2.1 dX7_leanOf_70 (lv_at hl 4 rfl) ?_
    obtain ⟨hg7, h⟩ := gd_some h
    refine lX_41 C hK hP hg7 dX7_leanOf_72 ?_
    cases h
    exact rt_i C hP hS dX7_leanOf_73
  · rw [if_pos c27] at h
    refine lv_aload_n C.1 C.2.1 dX7_leanOf_30 rfl (lv_at hl 0 rfl) ?_
    refine gX_7_aims C hX7_leanOf_7_X7 hK hP mX7_leanOf_7_6 dX7_leanOf_31 ?_
    refine lv_iload_n C.1 C.2.1 dX7_leanOf_34 rfl (lv_at hl 1 rfl) ?_
    refine lv_bipush (v := 6) C.1 C.2.1 dX7_leanOf_35 (by decide) ?_
    refine lv_imul C.1 C.2.1 dX7_leanOf_37 ?_
    refine lv_aload_n C.1 C.2.1 dX7_leanOf_38 rfl (lv_at hl 0 rfl) ?_
    refine gX_7_laws C hX7_leanOf_7_X7 hK hP mX7_leanOf_7_7 dX7_leanOf_39 ?_
    refine gX_3_values C hX7_leanOf_7_X8 hK hP mX7_leanOf_7_9 dX7_leanOf_42 ?_
    refine lv_iconst (v := 0) C.1 C.2.1 dX7_leanOf_45 (by decide) ?_
    refine lv_bipush (v := 6) C.1 C.2.1 dX7_leanOf_46 (by decide) ?_
    obtain ⟨hg8, h⟩ := gd_some h
    refine yX_36_16 C (C.2.2.1.trans hl.1.symm) (C.2.2.2.2.2.1 _ mX7_leanOf_7_10) (C.2.2.2.2.2.1 _ mX7_leanOf_7_11) (C.2.2.2.2.2.1 _ mX7_leanOf_7_12) (C.2.2.2.2.2.1 _ mX7_leanOf_7_13) hK hP hJ hS hg8 (Nat.le_of_ble_eq_true rfl) (Nat.le_of_ble_eq_true rfl) dX7_leanOf_48 (fun H locs hP hS => ?_)
    obtain ⟨u9, hu10, h⟩ := lt_some h
    rw [← hu10] at hP
    refine lv_aload_n C.1 C.2.1 dX7_leanOf_51 rfl (lv_at hl 0 rfl) ?_
    refine gX_7_worths C hX7_leanOf_7_X7 hK hP mX7_leanOf_7_4 dX7_leanOf_52 ?_
    refine lv_iload C.1 C.2.1 dX7_leanOf_55 (lv_at hl 4 rfl) ?_
    refine lv_aload_n C.1 C.2.1 dX7_leanOf_57 rfl (lv_at hl 0 rfl) ?_
    refine gX_7_laws C hX7_leanOf_7_X7 hK hP mX7_leanOf_7_7 dX7_leanOf_58 ?_
    refine lv_iload_n C.1 C.2.1 dX7_leanOf_61 rfl (lv_at hl 3 rfl) ?_
    obtain ⟨⟨r11, u12⟩, hc13, h⟩ := bd_some h
    try dsimp only at h
    refine cg_i (As := [.int v2]) (rest := [.int v4, .ref (ad 41)]) (AX_ge hJ) C hK hP hS (metX8_ask_3 l D cy ad st hJ _ v2 hc13) (cwV 1 C.2.2.2.2.2.1 gX7_leanOf_X8_ask rfl rfl rfl (by decide +kernel) ⟨(Nat.le_of_ble_eq_true rfl), (Nat.le_of_ble_eq_true rfl)⟩) 3 8 rfl rfl rfl hl.1 rfl (Nat.le_of_ble_eq_true rfl) dX7_leanOf_62 ⟨Nat.zero_le _, Nat.zero_le _⟩ (fun H locs hP hS => ?_)
    obtain ⟨hg14, h⟩ := gd_some h
    refine tX_41 C hK hP hJ hS hg14 dX7_leanOf_65 (fun H locs hP hS => ?_)
    obtain ⟨u15, hu16, h⟩ := lt_some h
    rw [← hu16] at hP
    refine lv_aload_n C.1 C.2.1 dX7_leanOf_66 rfl (lv_at hl 0 rfl) ?_
    refine gX_7_worths C hX7_leanOf_7_X7 hK hP mX7_leanOf_7_4 dX7_leanOf_67 ?_
    refine lv_iload C.1 C.2.1 dX7_leanOf_70 (lv_at hl 4 rfl) ?_
    obtain ⟨hg17, h⟩ := gd_some h
    refine lX_41 C hK hP hg17 dX7_leanOf_72 ?_
    cases h
    exact rt_i C hP hS dX7_leanOf_73
theorem metX7_leanOf_7 (l : Launch) (D : va_G) (cy : Nat → ClassId) (ad st : Nat → Nat) (hJ : JX ad st) (sz : Nat) (x1 : Int32) (x2 : Int32) {u : SX} {r : Int32} {u' : SX} (h : fX7_leanOf_7 x1 x2 u = some (r, u')) : Met l yX7_leanOf wsX7_leanOf rmX7_leanOf_7 (va_Pc [.ref (ad 7), .int x1, .int x2] (Px D [(cy 0, .int), (cy 1, .long), (cy 2, .boolean), (cy 3, .byte), (cy 4, .object "HissHorn$Text")] st (VX cy ad st) sz u)) (Qi D (VX cy ad st) (AX ad) sz r u') 0 0 (Ax (AX ad) sz) := by
  refine Met.ofW (cc := cX7_leanOf) (maxL := 5) (ret := (some .int)) (by decide) rfl ?_
  intro p e s m args below meth c s₁ B hml hv
  obtain ⟨rfl, hsz, hP, hK⟩ := hv
  subst hsz
  have C : Cx RX7 cX7_leanOf 5 (some .int) wsX7_leanOf p s m _ meth c := ⟨B.exec, B.bytes, hml, B.returns, findClass_of_methodNamed B.named, atoms_spec (ws := wsX7_leanOf) B.pre, B.notSynchronized⟩
  have hl := lv_entry ([.ref (ad 7), .int x1, .int x2]) (n := 5) (Nat.le_of_ble_eq_true rfl)
  rw [lg_entry_eq]
  exact wX7_leanOf_7 C hK hJ x1 x2 h hP va_S.rf hl
