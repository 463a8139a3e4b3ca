theorem zdX11_could_0 : (and (and (and (and (and (zk cX11_could 0 (.aload_n 0) 1) (zk cX11_could 1 (.iload_n 2) 1)) (and (zk cX11_could 2 (.invokevirtual 174) 3) (zk cX11_could 5 (.ifCond .eq 34) 3))) (and (and (zk cX11_could 39 (.iconst (-1)) 1) (zk cX11_could 40 (.ireturn) 1)) (and (zk cX11_could 8 (.iload_n 3) 1) (zk cX11_could 9 (.invokestatic 177) 3)))) (and (and (and (zk cX11_could 12 (.ifCond .eq 27) 3) (zk cX11_could 15 (.aload_n 0) 1)) (and (zk cX11_could 16 (.getfield 49) 3) (zk cX11_could 19 (.iload_n 1) 1))) (and (and (zk cX11_could 20 (.invokevirtual 180) 3) (zk cX11_could 23 (.ifCond .eq 16) 3)) (and (zk cX11_could 26 (.aload_n 0) 1) (zk cX11_could 27 (.getfield 49) 3))))) (and (and (and (and (zk cX11_could 30 (.getfield 181) 3) (zk cX11_could 33 (.iload_n 1) 1)) (and (zk cX11_could 34 (.iaload) 1) (zk cX11_could 35 (.iload_n 2) 1))) (and (and (zk cX11_could 36 (.if_icmp .le 5) 3) (zk cX11_could 41 (.aload_n 0) 1)) (and (zk cX11_could 42 (.getfield 58) 3) (zk cX11_could 45 (.iload_n 2) 1)))) (and (and (and (zk cX11_could 46 (.invokevirtual 214) 3) (zk cX11_could 49 (.aload_n 0) 1)) (and (zk cX11_could 50 (.getfield 76) 3) (zk cX11_could 53 (.iload_n 1) 1))) (and (and (zk cX11_could 54 (.invokevirtual 239) 3) (zk cX11_could 57 (.ifCond .ne 5) 3)) (and (zk cX11_could 62 (.iload_n 3) 1) (zk cX11_could 63 (.ifCond .ne 13) 3)))))) = true := by decide +kernel
theorem dX11_could_0 : decode cX11_could 0 = .ok (.aload_n 0, 1) := zk_of (zk_l (zk_l (zk_l (zk_l (zk_l zdX11_could_0)))))
theorem dX11_could_1 : decode cX11_could 1 = .ok (.iload_n 2, 1) := zk_of (zk_r (zk_l (zk_l (zk_l (zk_l zdX11_could_0)))))
theorem dX11_could_2 : decode cX11_could 2 = .ok (.invokevirtual 174, 3) := zk_of (zk_l (zk_r (zk_l (zk_l (zk_l zdX11_could_0)))))
theorem dX11_could_5 : decode cX11_could 5 = .ok (.ifCond .eq 34, 3) := zk_of (zk_r (zk_r (zk_l (zk_l (zk_l zdX11_could_0)))))
theorem dX11_could_39 : decode cX11_could 39 = .ok (.iconst (-1), 1) := zk_of (zk_l (zk_l (zk_r (zk_l (zk_l zdX11_could_0)))))
theorem dX11_could_40 : decode cX11_could 40 = .ok (.ireturn, 1) := zk_of (zk_r (zk_l (zk_r (zk_l (zk_l zdX11_could_0)))))
theorem dX11_could_8 : decode cX11_could 8 = .ok (.iload_n 3, 1) := zk_of (zk_l (zk_r (zk_r (zk_l (zk_l zdX11_could_0)))))
theorem dX11_could_9 : decode cX11_could 9 = .ok (.invokestatic 177, 3) := zk_of (zk_r (zk_r (zk_r (zk_l (zk_l zdX11_could_0)))))
theorem dX11_could_12 : decode cX11_could 12 = .ok (.ifCond .eq 27, 3) := zk_of (zk_l (zk_l (zk_l (zk_r (zk_l zdX11_could_0)))))
theorem dX11_could_15 : decode cX11_could 15 = .ok (.aload_n 0, 1) := zk_of (zk_r (zk_l (zk_l (zk_r (zk_l zdX11_could_0)))))
theorem dX11_could_16 : decode cX11_could 16 = .ok (.getfield 49, 3) := zk_of (zk_l (zk_r (zk_l (zk_r (zk_l zdX11_could_0)))))
theorem dX11_could_19 : decode cX11_could 19 = .ok (.iload_n 1, 1) := zk_of (zk_r (zk_r (zk_l (zk_r (zk_l zdX11_could_0)))))
theorem dX11_could_20 : decode cX11_could 20 = .ok (.invokevirtual 180, 3) := zk_of (zk_l (zk_l (zk_r (zk_r (zk_l zdX11_could_0)))))
theorem dX11_could_23 : decode cX11_could 23 = .ok (.ifCond .eq 16, 3) := zk_of (zk_r (zk_l (zk_r (zk_r (zk_l zdX11_could_0)))))
theorem dX11_could_26 : decode cX11_could 26 = .ok (.aload_n 0, 1) := zk_of (zk_l (zk_r (zk_r (zk_r (zk_l zdX11_could_0)))))
theorem dX11_could_27 : decode cX11_could 27 = .ok (.getfield 49, 3) := zk_of (zk_r (zk_r (zk_r (zk_r (zk_l zdX11_could_0)))))
theorem dX11_could_30 : decode cX11_could 30 = .ok (.getfield 181, 3) := zk_of (zk_l (zk_l (zk_l (zk_l (zk_r zdX11_could_0)))))
theorem dX11_could_33 : decode cX11_could 33 = .ok (.iload_n 1, 1) := zk_of (zk_r (zk_l (zk_l (zk_l (zk_r zdX11_could_0)))))
theorem dX11_could_34 : decode cX11_could 34 = .ok (.iaload, 1) := zk_of (zk_l (zk_r (zk_l (zk_l (zk_r zdX11_could_0)))))
theorem dX11_could_35 : decode cX11_could 35 = .ok (.iload_n 2, 1) := zk_of (zk_r (zk_r (zk_l (zk_l (zk_r zdX11_could_0)))))
theorem dX11_could_36 : decode cX11_could 36 = .ok (.if_icmp .le 5, 3) := zk_of (zk_l (zk_l (zk_r (zk_l (zk_r zdX11_could_0)))))
theorem dX11_could_41 : decode cX11_could 41 = .ok (.aload_n 0, 1) := zk_of (zk_r (zk_l (zk_r (zk_l (zk_r zdX11_could_0)))))
theorem dX11_could_42 : decode cX11_could 42 = .ok (.getfield 58, 3) := zk_of (zk_l (zk_r (zk_r (zk_l (zk_r zdX11_could_0)))))
theorem dX11_could_45 : decode cX11_could 45 = .ok (.iload_n 2, 1) := zk_of (zk_r (zk_r (zk_r (zk_l (zk_r zdX11_could_0)))))
theorem dX11_could_46 : decode cX11_could 46 = .ok (.invokevirtual 214, 3) := zk_of (zk_l (zk_l (zk_l (zk_r (zk_r zdX11_could_0)))))
theorem dX11_could_49 : decode cX11_could 49 = .ok (.aload_n 0, 1) := zk_of (zk_r (zk_l (zk_l (zk_r (zk_r zdX11_could_0)))))
theorem dX11_could_50 : decode cX11_could 50 = .ok (.getfield 76, 3) := zk_of (zk_l (zk_r (zk_l (zk_r (zk_r zdX11_could_0)))))
theorem dX11_could_53 : decode cX11_could 53 = .ok (.iload_n 1, 1) := zk_of (zk_r (zk_r (zk_l (zk_r (zk_r zdX11_could_0)))))
theorem dX11_could_54 : decode cX11_could 54 = .ok (.invokevirtual 239, 3) := zk_of (zk_l (zk_l (zk_r (zk_r (zk_r zdX11_could_0)))))
theorem dX11_could_57 : decode cX11_could 57 = .ok (.ifCond .ne 5, 3) := zk_of (zk_r (zk_l (zk_r (zk_r (zk_r zdX11_could_0)))))
theorem dX11_could_62 : decode cX11_could 62 = .ok (.iload_n 3, 1) := zk_of (zk_l (zk_r (zk_r (zk_r (zk_r zdX11_could_0)))))
theorem dX11_could_63 : decode cX11_could 63 = .ok (.ifCond .ne 13, 3) := zk_of (zk_r (zk_r (zk_r (zk_r (zk_r zdX11_could_0)))))
set_option maxRecDepth 20000 in
theorem ggX11_could_X11_isDay : GoodIn wsX11_could wsX11_isDay := ggi (fun w h => List.mem_cons_of_mem _ (List.mem_append_left _ (List.mem_append_left _ (List.mem_append_left _ (List.mem_append_left _ (List.mem_append_left _ (List.mem_append_left _ (List.mem_append_right _ (List.mem_append_left _ h))))))))) gs_X11_isDay
set_option maxRecDepth 20000 in
theorem gX11_could_X11_isDay : GoodIn wsX11_could (wsV RX11 174 RX11 yX11_isDay wsX11_isDay) := goodIn_app (goodIn_of _ (by decide +kernel)) ggX11_could_X11_isDay
set_option maxRecDepth 20000 in
theorem ggX11_could_X11_isEither : GoodIn wsX11_could wsX11_isEither := ggi (fun w h => List.mem_cons_of_mem _ (List.mem_append_left _ (List.mem_append_left _ (List.mem_append_left _ (List.mem_append_left _ (List.mem_append_left _ (List.mem_append_left _ (List.mem_append_right _ (List.mem_append_right _ (List.mem_append_left _ h)))))))))) gs_X11_isEither
set_option maxRecDepth 20000 in
theorem gX11_could_X11_isEither : GoodIn wsX11_could (va_wsS RX11 177 yX11_isEither wsX11_isEither) := goodIn_app (goodIn_of _ (by decide +kernel)) ggX11_could_X11_isEither
set_option maxRecDepth 20000 in
theorem ggX11_could_X6_has : GoodIn wsX11_could wsX6_has := ggi (fun w h => List.mem_cons_of_mem _ (List.mem_append_left _ (List.mem_append_left _ (List.mem_append_left _ (List.mem_append_left _ (List.mem_append_left _ (List.mem_append_left _ (List.mem_append_right _ (List.mem_append_right _ (List.mem_append_right _ (List.mem_append_left _ h))))))))))) gs_X6_has
set_option maxRecDepth 20000 in
theorem gX11_could_X6_has : GoodIn wsX11_could (wsV RX11 180 RX6 yX6_has wsX6_has) := goodIn_app (goodIn_of _ (by decide +kernel)) ggX11_could_X6_has
set_option maxRecDepth 20000 in
theorem ggX11_could_X7_recall : GoodIn wsX11_could wsX7_recall := ggi (fun w h => List.mem_cons_of_mem _ (List.mem_append_left _ (List.mem_append_left _ (List.mem_append_left _ (List.mem_append_left _ (List.mem_append_left _ (List.mem_append_left _ (List.mem_append_right _ (List.mem_append_right _ (List.mem_append_right _ (List.mem_append_right _ (List.mem_append_left _ h)))))))))))) gs_X7_recall
set_option maxRecDepth 20000 in
theorem gX11_could_X7_recall : GoodIn wsX11_could (wsV RX11 214 RX7 yX7_recall wsX7_recall) := goodIn_app (goodIn_of _ (by decide +kernel)) ggX11_could_X7_recall
set_option maxRecDepth 20000 in
theorem ggX11_could_X0_narrowDown : GoodIn wsX11_could wsX0_narrowDown := ggi (fun w h => List.mem_cons_of_mem _ (List.mem_append_left _ (List.mem_append_left _ (List.mem_append_left _ (List.mem_append_left _ (List.mem_append_left _ (List.mem_append_left _ (List.mem_append_right _ (List.mem_append_right _ (List.mem_append_right _ (List.mem_append_right _ (List.mem_append_right _ h)))))))))))) gs_X0_narrowDown
set_option maxRecDepth 20000 in
theorem gX11_could_X0_narrowDown : GoodIn wsX11_could (wsV RX11 239 RX0 yX0_narrowDown wsX0_narrowDown) := goodIn_app (goodIn_of _ (by decide +kernel)) ggX11_could_X0_narrowDown
theorem zdX11_could_76 : (and (and (and (and (zk cX11_could 76 (.aload_n 0) 1) (zk cX11_could 77 (.getfield 76) 3)) (zk cX11_could 80 (.getfield 245) 3)) (and (zk cX11_could 83 (.ireturn) 1) (zk cX11_could 66 (.aload_n 0) 1))) (and (and (and (zk cX11_could 67 (.getfield 76) 3) (zk cX11_could 70 (.getfield 242) 3)) (zk cX11_could 73 (.goto 10) 3)) (and (zk cX11_could 60 (.iconst (-1)) 1) (zk cX11_could 61 (.ireturn) 1)))) = true := by decide +kernel
theorem dX11_could_76 : decode cX11_could 76 = .ok (.aload_n 0, 1) := zk_of (zk_l (zk_l (zk_l (zk_l zdX11_could_76))))
theorem dX11_could_77 : decode cX11_could 77 = .ok (.getfield 76, 3) := zk_of (zk_r (zk_l (zk_l (zk_l zdX11_could_76))))
theorem dX11_could_80 : decode cX11_could 80 = .ok (.getfield 245, 3) := zk_of (zk_r (zk_l (zk_l zdX11_could_76)))
theorem dX11_could_83 : decode cX11_could 83 = .ok (.ireturn, 1) := zk_of (zk_l (zk_r (zk_l zdX11_could_76)))
theorem dX11_could_66 : decode cX11_could 66 = .ok (.aload_n 0, 1) := zk_of (zk_r (zk_r (zk_l zdX11_could_76)))
theorem dX11_could_67 : decode cX11_could 67 = .ok (.getfield 76, 3) := zk_of (zk_l (zk_l (zk_l (zk_r zdX11_could_76))))
theorem dX11_could_70 : decode cX11_could 70 = .ok (.getfield 242, 3) := zk_of (zk_r (zk_l (zk_l (zk_r zdX11_could_76))))
theorem dX11_could_73 : decode cX11_could 73 = .ok (.goto 10, 3) := zk_of (zk_r (zk_l (zk_r zdX11_could_76)))
theorem dX11_could_60 : decode cX11_could 60 = .ok (.iconst (-1), 1) := zk_of (zk_l (zk_r (zk_r zdX11_could_76)))
theorem dX11_could_61 : decode cX11_could 61 = .ok (.ireturn, 1) := zk_of (zk_r (zk_r (zk_r zdX11_could_76)))
/-- HissHorn.could(III)I of cell 0 -/
def rmX11_could_0 : Room := { frames := 7, cells := 0, slots := 0, locals := 162 }
theorem hX11_could_0_X11 : ∀ w ∈ u_ws RX11 TX11 13, w ∈ wsX11_could := fun w h => (List.mem_cons_of_mem _ (List.mem_append_left _ (List.mem_append_left _ (List.mem_append_left _ (List.mem_append_left _ (List.mem_append_left _ (List.mem_append_right _ h)))))))
theorem mX11_could_0_1 : Cond.fieldLink RX11 49 "HissHorn" "parts" "LHissHorn$Parts;" ∈ wsX11_could := (List.mem_cons_of_mem _ (List.mem_append_left _ (List.mem_append_left _ (List.mem_append_left _ (List.mem_append_left _ (List.mem_append_left _ (List.mem_append_left _ (List.mem_append_left _ (List.mem_of_getElem? (i := 18) rfl)))))))))
theorem hX11_could_0_X6 : ∀ w ∈ u_ws RX6 TX6 17, w ∈ wsX11_could := fun w h => (List.mem_cons_of_mem _ (List.mem_append_left _ (List.mem_append_left _ (List.mem_append_left _ (List.mem_append_left _ (List.mem_append_right _ h))))))
theorem mX11_could_0_3 : Cond.fieldLink RX11 181 "HissHorn$Parts" "day" "[I" ∈ wsX11_could := (List.mem_cons_of_mem _ (List.mem_append_left _ (List.mem_append_left _ (List.mem_append_left _ (List.mem_append_left _ (List.mem_append_left _ (List.mem_append_left _ (List.mem_append_left _ (List.mem_of_getElem? (i := 19) rfl)))))))))
theorem mX11_could_0_4 : Cond.fieldLink RX11 58 "HissHorn" "readings" "LHissHorn$Readings;" ∈ wsX11_could := (List.mem_cons_of_mem _ (List.mem_append_left _ (List.mem_append_left _ (List.mem_append_left _ (List.mem_append_left _ (List.mem_append_left _ (List.mem_append_left _ (List.mem_append_left _ (List.mem_of_getElem? (i := 20) rfl)))))))))
theorem mX11_could_0_5 : Cond.fieldLink RX11 76 "HissHorn" "blame" "LHissHorn$Blame;" ∈ wsX11_could := (List.mem_cons_of_mem _ (List.mem_append_left _ (List.mem_append_left _ (List.mem_append_left _ (List.mem_append_left _ (List.mem_append_left _ (List.mem_append_left _ (List.mem_append_left _ (List.mem_of_getElem? (i := 21) rfl)))))))))
theorem hX11_could_0_X0 : ∀ w ∈ u_ws RX0 TX0 9, w ∈ wsX11_could := fun w h => (List.mem_cons_of_mem _ (List.mem_append_left _ (List.mem_append_left _ (List.mem_append_left _ (List.mem_append_right _ h)))))
theorem mX11_could_0_7 : Cond.fieldLink RX11 245 "HissHorn$Blame" "greatest" "I" ∈ wsX11_could := (List.mem_cons_of_mem _ (List.mem_append_left _ (List.mem_append_left _ (List.mem_append_left _ (List.mem_append_left _ (List.mem_append_left _ (List.mem_append_left _ (List.mem_append_left _ (List.mem_of_getElem? (i := 22) rfl)))))))))
theorem mX11_could_0_8 : Cond.fieldLink RX11 242 "HissHorn$Blame" "least" "I" ∈ wsX11_could := (List.mem_cons_of_mem _ (List.mem_append_left _ (List.mem_append_left _ (List.mem_append_left _ (List.mem_append_left _ (List.mem_append_left _ (List.mem_append_left _ (List.mem_append_left _ (List.mem_of_getElem? (i := 23) rfl)))))))))
def fX11_could_0 (x1 : Int32) (x2 : Int32) (x3 : Int32) (u : SX) : Option (Int32 × SX) := ((fX11_isDay_0 x2 u).bind fun q => match q with | (r1, u2) => (if r1 = 0 then (some ((-1), u2)) else ((fX11_isEither x3).bind fun r4 => (if r4 = 0 then (some ((-1), u2)) else ((fX6_has_6 x1 u2).bind fun q => match q with | (r7, u8) => (if r7 = 0 then (some ((-1), u8)) else (gd (inb x1 12) (if (u8.2.1 25 x1.toNatClampNeg) ≤ x2 then ((fX7_recall_7 x2 u8).bind fun q => match q with | (r11, u12) => ((fX0_narrowDown_9 x1 u12).bind fun q => match q with | (r14, u15) => (if r14 = 0 then (some ((-1), u15)) else (if x3 = 0 then (some (u15.1 24, u15)) else (some (u15.1 25, u15)))))) else (some ((-1), u8))))))))))
set_option maxHeartbeats 4000000 in
set_option maxRecDepth 100000 in
theorem wX11_could_0 {p : Program} {l : Launch} {e : Env} {s : State} {m : MethodId} {args : Array Value} {below : List Frame} {meth : Method} {c : Code} {D : va_G} {cy : Nat → ClassId} {ad st : Nat → Nat} (C : Cx RX11 cX11_could 4 (some .int) wsX11_could p s m args meth c) (hK : Ky D [(cy 0, .int), (cy 1, .long), (cy 2, .boolean), (cy 3, .byte), (cy 4, .object "HissHorn$Text")] st s) (hJ : JX ad st) (x1 : Int32) (x2 : Int32) (x3 : Int32) {u : SX} {r : Int32} {u' : SX} {H : Heap} {locs : List Loc} {ls : Array Slot} (h : fX11_could_0 x1 x2 x3 u = some (r, u')) (hP : va_P D vwCl (VX cy ad st u) H) (hS : va_S (Ax (AX ad) s.heap.size) s.heap H locs) (hl : lv_has ls 4 [(0, .ref (ad 0)), (1, .int x1), (2, .int x2), (3, .int x3)]) : W p l e rmX11_could_0 s m args below meth c H locs 0 0 (MQ below (Qi D (VX cy ad st) (AX ad) s.heap.size r u') args s 0 0 (Ax (AX ad) s.heap.size)) (F0 m 0 ls []) := by
  unfold fX11_could_0 at h
  refine lv_aload_n C.1 C.2.1 dX11_could_0 rfl (lv_at hl 0 rfl) ?_
  refine lv_iload_n C.1 C.2.1 dX11_could_1 rfl (lv_at hl 2 rfl) ?_
  obtain ⟨⟨r1, u2⟩, hc3, h⟩ := bd_some h
  try dsimp only at h
  refine cg_i (As := [.int x2]) (rest := []) (AX_ge hJ) C hK hP hS (metX11_isDay_0 l D cy ad st hJ _ x2 hc3) (cwV 1 C.2.2.2.2.2.1 gX11_could_X11_isDay rfl rfl rfl (by decide +kernel) ⟨(Nat.le_of_ble_eq_true rfl), (Nat.le_of_ble_eq_true rfl)⟩) 0 11 rfl rfl rfl hl.1 rfl (Nat.le_of_ble_eq_true rfl) dX11_could_2 ⟨Nat.zero_le _, Nat.zero_le _⟩ (fun H locs hP hS => ?_)
  refine lv_if_eq (tgt := 39) C.1 C.2.1 dX11_could_5 (by decide) (fun c5 => ?_) (fun c5 => ?_)
  · rw [if_pos c5] at h
    refine lv_iconst (v := (-1)) C.1 C.2.1 dX11_could_39 (by decide) ?_
    cases h
    exact rt_i C hP hS dX11_could_40
  · rw [if_neg c5] at h
    refine lv_iload_n C.1 C.2.1 dX11_could_8 rfl (lv_at hl 3 rfl) ?_
    obtain ⟨r4, hc6, h⟩ := bd_some h
    refine cs_i (As := [.int x3]) (rest := []) (AX_ge hJ) C hK hP hS (metX11_isEither l D cy st _ x3 hc6) (va_cwS 1 C.2.2.2.2.2.1 gX11_could_X11_isEither rfl rfl rfl (by decide +kernel) ⟨(Nat.le_of_ble_eq_true rfl), (Nat.le_of_ble_eq_true rfl)⟩) rfl hl.1 rfl (Nat.le_of_ble_eq_true rfl) dX11_could_9 ⟨Nat.zero_le _, Nat.zero_le _⟩ (fun H locs hP hS => ?_)
    refine lv_if_eq (tgt := 39) C.1 C.2.1 dX11_could_12 (by decide) (fun c12 => ?_) (fun c12 => ?_)
    · rw [if_pos c12] at h
      refine lv_iconst (v := (-1)) C.1 C.2.1 dX11_could_39 (by decide) ?_
      cases h
      exact rt_i C hP hS dX11_could_40
    · rw [if_neg c12] at h
      refine lv_aload_n C.1 C.2.1 dX11_could_15 rfl (lv_at hl 0 rfl) ?_
      refine gX_0_parts C hX11_could_0_X11 hK hP mX11_could_0_1 dX11_could_16 ?_
      refine lv_iload_n C.1 C.2.1 dX11_could_19 rfl (lv_at hl 1 rfl) ?_
      obtain ⟨⟨r7, u8⟩, hc9, h⟩ := bd_some h
      try dsimp only at h
      refine cg_i (As := [.int x1]) (rest := []) (AX_ge hJ) C hK hP hS (metX6_has_6 l D cy ad st hJ _ x1 hc9) (cwV 1 C.2.2.2.2.2.1 gX11_could_X6_has rfl rfl rfl (by decide +kernel) ⟨(Nat.le_of_ble_eq_true rfl), (Nat.le_of_ble_eq_true rfl)⟩) 6 6 rfl rfl rfl hl.1 rfl (Nat.le_of_ble_eq_true rfl) dX11_could_20 ⟨Nat.zero_le _, Nat.zero_le _⟩ (fun H locs hP hS => ?_)
      refine lv_if_eq (tgt := 39) C.1 C.2.1 dX11_could_23 (by decide) (fun c23 => ?_) (fun c23 => ?_)
      · rw [if_pos c23] at h
        refine lv_iconst (v := (-1)) C.1 C.2.1 dX11_could_39 (by decide) ?_
        cases h
        exact rt_i C hP hS dX11_could_40
      · rw [if_neg c23] at h
        refine lv_aload_n C.1 C.2.1 dX11_could_26 rfl (lv_at hl 0 rfl) ?_
        refine gX_0_parts C hX11_could_0_X11 hK hP mX11_could_0_1 dX11_could_27 ?_
        refine gX_6_day C hX11_could_0_X6 hK hP mX11_could_0_3 dX11_could_30 ?_
        refine lv_iload_n C.1 C.2.1 dX11_could_33 rfl (lv_at hl 1 rfl) ?_
        obtain ⟨hg10, h⟩ := gd_some h
        refine lX_25 C hK hP hg10 dX11_could_34 ?_
        refine lv_iload_n C.1 C.2.1 dX11_could_35 rfl (lv_at hl 2 rfl) ?_
        refine lv_icmp_le (tgt := 41) C.1 C.2.1 dX11_could_36 (by decide) (fun c36 => ?_) (fun c36 => ?_)
        · rw [if_pos c36] at h
          refine lv_aload_n C.1 C.2.1 dX11_could_41 rfl (lv_at hl 0 rfl) ?_
          refine gX_0_readings C hX11_could_0_X11 hK hP mX11_could_0_4 dX11_could_42 ?_
          refine lv_iload_n C.1 C.2.1 dX11_could_45 rfl (lv_at hl 2 rfl) ?_
          obtain ⟨⟨r11, u12⟩, hc13, h⟩ := bd_some h
          try dsimp only at h
          refine cg_v (As := [.int x2]) (rest := []) (AX_ge hJ) C hK hP hS (metX7_recall_7 l D cy ad st hJ _ x2 hc13) (cwV 1 C.2.2.2.2.2.1 gX11_could_X7_recall rfl rfl rfl (by decide +kernel) ⟨(Nat.le_of_ble_eq_true rfl), (Nat.le_of_ble_eq_true rfl)⟩) 7 7 rfl rfl rfl hl.1 rfl (Nat.le_of_ble_eq_true rfl) dX11_could_46 ⟨Nat.zero_le _, Nat.zero_le _⟩ (fun H locs hP hS => ?_)
          refine lv_aload_n C.1 C.2.1 dX11_could_49 rfl (lv_at hl 0 rfl) ?_
          refine gX_0_blame C hX11_could_0_X11 hK hP mX11_could_0_5 dX11_could_50 ?_
          refine lv_iload_n C.1 C.2.1 dX11_could_53 rfl (lv_at hl 1 rfl) ?_
          obtain ⟨⟨r14, u15⟩, hc16, h⟩ := bd_some h
          try dsimp only at h
          refine cg_i (As := [.int x1]) (rest := []) (AX_ge hJ) C hK hP hS (metX0_narrowDown_9 l D cy ad st hJ _ x1 hc16) (cwV 1 C.2.2.2.2.2.1 gX11_could_X0_narrowDown rfl rfl rfl (by decide +kernel) ⟨(Nat.le_of_ble_eq_true rfl), (Nat.le_of_ble_eq_true rfl)⟩) 9 0 rfl rfl rfl hl.1 rfl (Nat.le_of_ble_eq_true rfl) dX11_could_54 ⟨Nat.zero_le _, Nat.zero_le _⟩ (fun H locs hP hS => ?_)
          refine lv_if_ne (tgt := 62) C.1 C.2.1 dX11_could_57 (by decide) (fun c57 => ?_) (fun c57 => ?_)
          · rw [if_neg c57] at h
            refine lv_iload_n C.1 C.2.1 dX11_could_62 rfl (lv_at hl 3 rfl) ?_
            refine lv_if_ne (tgt := 76) C.1 C.2.1 dX11_could_63 (by decide) (fun c63 => ?_) (fun c63 => ?_)
            · rw [if_neg c63] at h
              refine lv_aload_n C.1 C.2.1 dX11_could_76 rfl (lv_at hl 0 rfl) ?_
              refine gX_0_blame C hX11_could_0_X11 hK hP mX11_could_0_5 dX11_could_77 ?_
              refine gX_9_greatest C hX11_could_0_X0 hK hP mX11_could_0_7 dX11_could_80 ?_
              cases h
              exact rt_i C hP hS dX11_could_83
            · rw [if_pos c63] at h
              refine lv_aload_n C.1 C.2.1 dX11_could_66 rfl (lv_at hl 0 rfl) ?_
              refine gX_0_blame C hX11_could_0_X11 hK hP mX11_could_0_5 dX11_could_67 ?_
              refine gX_9_least C hX11_could_0_X0 hK hP mX11_could_0_8 dX11_could_70 ?_
              refine lv_goto (tgt := 83) C.1 C.2.1 dX11_could_73 (by decide) ?_
              cases h
              exact rt_i C hP hS dX11_could_83
          · rw [if_pos c57] at h
            refine lv_iconst (v := (-1)) C.1 C.2.1 dX11_could_60 (by decide) ?_
            cases h
            exact rt_i C hP hS dX11_could_61
        · rw [if_neg c36] at h
          refine lv_iconst (v := (-1)) C.1 C.2.1 dX11_could_39 (by decide) ?_
          cases h
          exact rt_i C hP hS dX11_could_40
theorem metX11_could_0 (l : Launch) (D : va_G) (cy : Nat → ClassId) (ad st : Nat → Nat) (hJ : JX ad st) (sz : Nat) (x1 : Int32) (x2 : Int32) (x3 : Int32) {u : SX} {r : Int32} {u' : SX} (h : fX11_could_0 x1 x2 x3 u = some (r, u')) : Met l yX11_could wsX11_could rmX11_could_0 (va_Pc [.ref (ad 0), .int x1, .int x2, .int x3] (Px D [(cy 0, .int), (cy 1, .long), (cy 2, .boolean), (cy 3, .byte), (cy 4, .object "HissHorn$Text")] st (VX cy ad st) sz u)) (Qi D (VX cy ad st) (AX ad) sz r u') 0 0 (Ax (AX ad) sz) := by
  refine Met.ofW (cc := cX11_could) (maxL := 4) (ret := (some .int)) (by decide) rfl ?_
  intro p e s m args below meth c s₁ B hml hv
  obtain ⟨rfl, hsz, hP, hK⟩ := hv
  subst hsz
  have C : Cx RX11 cX11_could 4 (some .int) wsX11_could p s m _ meth c := ⟨B.exec, B.bytes, hml, B.returns, findClass_of_methodNamed B.named, atoms_spec (ws := wsX11_could) B.pre, B.notSynchronized⟩
  have hl := lv_entry ([.ref (ad 0), .int x1, .int x2, .int x3]) (n := 4) (Nat.le_of_ble_eq_true rfl)
  rw [lg_entry_eq]
  exact wX11_could_0 C hK hJ x1 x2 x3 h hP va_S.rf hl

theorem zdX0_weigh_167 : (and (and (and (and (and (zk cX0_weigh 167 (.iastore) 1) (zk cX0_weigh 168 (.iinc 3 1) 3)) (and (zk cX0_weigh 171 (.goto (-116)) 3) (zk cX0_weigh 55 (.iload_n 3) 1))) (and (and (zk cX0_weigh 56 (.aload_n 0) 1) (zk cX0_weigh 57 (.getfield 22) 3)) (and (zk cX0_weigh 60 (.getfield 81) 3) (zk cX0_weigh 63 (.if_icmp .ge 111) 3)))) (and (and (and (zk cX0_weigh 66 (.aload_n 0) 1) (zk cX0_weigh 67 (.getfield 18) 3)) (and (zk cX0_weigh 70 (.iload_n 1) 1) (zk cX0_weigh 71 (.iload_n 3) 1))) (and (and (zk cX0_weigh 72 (.invokevirtual 38) 3) (zk cX0_weigh 75 (.istore 4) 2)) (and (zk cX0_weigh 77 (.aload_n 0) 1) (zk cX0_weigh 78 (.getfield 22) 3))))) (and (and (and (and (zk cX0_weigh 81 (.getfield 42) 3) (zk cX0_weigh 84 (.iload_n 3) 1)) (and (zk cX0_weigh 85 (.iaload) 1) (zk cX0_weigh 86 (.iload 4) 2))) (and (and (zk cX0_weigh 88 (.invokestatic 47) 3) (zk cX0_weigh 91 (.istore 5) 2)) (and (zk cX0_weigh 93 (.aload_n 0) 1) (zk cX0_weigh 94 (.getfield 22) 3)))) (and (and (and (zk cX0_weigh 97 (.getfield 50) 3) (zk cX0_weigh 100 (.iload_n 3) 1)) (and (zk cX0_weigh 101 (.iaload) 1) (zk cX0_weigh 102 (.iload 4) 2))) (and (and (zk cX0_weigh 104 (.invokestatic 47) 3) (zk cX0_weigh 107 (.istore 6) 2)) (and (zk cX0_weigh 109 (.sipush 400) 3) (zk cX0_weigh 112 (.iload 4) 2)))))) = true := by decide +kernel
theorem dX0_weigh_167 : decode cX0_weigh 167 = .ok (.iastore, 1) := zk_of (zk_l (zk_l (zk_l (zk_l (zk_l zdX0_weigh_167)))))
theorem dX0_weigh_168 : decode cX0_weigh 168 = .ok (.iinc 3 1, 3) := zk_of (zk_r (zk_l (zk_l (zk_l (zk_l zdX0_weigh_167)))))
theorem dX0_weigh_171 : decode cX0_weigh 171 = .ok (.goto (-116), 3) := zk_of (zk_l (zk_r (zk_l (zk_l (zk_l zdX0_weigh_167)))))
theorem dX0_weigh_55 : decode cX0_weigh 55 = .ok (.iload_n 3, 1) := zk_of (zk_r (zk_r (zk_l (zk_l (zk_l zdX0_weigh_167)))))
theorem dX0_weigh_56 : decode cX0_weigh 56 = .ok (.aload_n 0, 1) := zk_of (zk_l (zk_l (zk_r (zk_l (zk_l zdX0_weigh_167)))))
theorem dX0_weigh_57 : decode cX0_weigh 57 = .ok (.getfield 22, 3) := zk_of (zk_r (zk_l (zk_r (zk_l (zk_l zdX0_weigh_167)))))
theorem dX0_weigh_60 : decode cX0_weigh 60 = .ok (.getfield 81, 3) := zk_of (zk_l (zk_r (zk_r (zk_l (zk_l zdX0_weigh_167)))))
theorem dX0_weigh_63 : decode cX0_weigh 63 = .ok (.if_icmp .ge 111, 3) := zk_of (zk_r (zk_r (zk_r (zk_l (zk_l zdX0_weigh_167)))))
theorem dX0_weigh_66 : decode cX0_weigh 66 = .ok (.aload_n 0, 1) := zk_of (zk_l (zk_l (zk_l (zk_r (zk_l zdX0_weigh_167)))))
theorem dX0_weigh_67 : decode cX0_weigh 67 = .ok (.getfield 18, 3) := zk_of (zk_r (zk_l (zk_l (zk_r (zk_l zdX0_weigh_167)))))
theorem dX0_weigh_70 : decode cX0_weigh 70 = .ok (.iload_n 1, 1) := zk_of (zk_l (zk_r (zk_l (zk_r (zk_l zdX0_weigh_167)))))
theorem dX0_weigh_71 : decode cX0_weigh 71 = .ok (.iload_n 3, 1) := zk_of (zk_r (zk_r (zk_l (zk_r (zk_l zdX0_weigh_167)))))
theorem dX0_weigh_72 : decode cX0_weigh 72 = .ok (.invokevirtual 38, 3) := zk_of (zk_l (zk_l (zk_r (zk_r (zk_l zdX0_weigh_167)))))
theorem dX0_weigh_75 : decode cX0_weigh 75 = .ok (.istore 4, 2) := zk_of (zk_r (zk_l (zk_r (zk_r (zk_l zdX0_weigh_167)))))
theorem dX0_weigh_77 : decode cX0_weigh 77 = .ok (.aload_n 0, 1) := zk_of (zk_l (zk_r (zk_r (zk_r (zk_l zdX0_weigh_167)))))
theorem dX0_weigh_78 : decode cX0_weigh 78 = .ok (.getfield 22, 3) := zk_of (zk_r (zk_r (zk_r (zk_r (zk_l zdX0_weigh_167)))))
theorem dX0_weigh_81 : decode cX0_weigh 81 = .ok (.getfield 42, 3) := zk_of (zk_l (zk_l (zk_l (zk_l (zk_r zdX0_weigh_167)))))
theorem dX0_weigh_84 : decode cX0_weigh 84 = .ok (.iload_n 3, 1) := zk_of (zk_r (zk_l (zk_l (zk_l (zk_r zdX0_weigh_167)))))
theorem dX0_weigh_85 : decode cX0_weigh 85 = .ok (.iaload, 1) := zk_of (zk_l (zk_r (zk_l (zk_l (zk_r zdX0_weigh_167)))))
theorem dX0_weigh_86 : decode cX0_weigh 86 = .ok (.iload 4, 2) := zk_of (zk_r (zk_r (zk_l (zk_l (zk_r zdX0_weigh_167)))))
theorem dX0_weigh_88 : decode cX0_weigh 88 = .ok (.invokestatic 47, 3) := zk_of (zk_l (zk_l (zk_r (zk_l (zk_r zdX0_weigh_167)))))
theorem dX0_weigh_91 : decode cX0_weigh 91 = .ok (.istore 5, 2) := zk_of (zk_r (zk_l (zk_r (zk_l (zk_r zdX0_weigh_167)))))
theorem dX0_weigh_93 : decode cX0_weigh 93 = .ok (.aload_n 0, 1) := zk_of (zk_l (zk_r (zk_r (zk_l (zk_r zdX0_weigh_167)))))
theorem dX0_weigh_94 : decode cX0_weigh 94 = .ok (.getfield 22, 3) := zk_of (zk_r (zk_r (zk_r (zk_l (zk_r zdX0_weigh_167)))))
theorem dX0_weigh_97 : decode cX0_weigh 97 = .ok (.getfield 50, 3) := zk_of (zk_l (zk_l (zk_l (zk_r (zk_r zdX0_weigh_167)))))
theorem dX0_weigh_100 : decode cX0_weigh 100 = .ok (.iload_n 3, 1) := zk_of (zk_r (zk_l (zk_l (zk_r (zk_r zdX0_weigh_167)))))
theorem dX0_weigh_101 : decode cX0_weigh 101 = .ok (.iaload, 1) := zk_of (zk_l (zk_r (zk_l (zk_r (zk_r zdX0_weigh_167)))))
theorem dX0_weigh_102 : decode cX0_weigh 102 = .ok (.iload 4, 2) := zk_of (zk_r (zk_r (zk_l (zk_r (zk_r zdX0_weigh_167)))))
theorem dX0_weigh_104 : decode cX0_weigh 104 = .ok (.invokestatic 47, 3) := zk_of (zk_l (zk_l (zk_r (zk_r (zk_r zdX0_weigh_167)))))
theorem dX0_weigh_107 : decode cX0_weigh 107 = .ok (.istore 6, 2) := zk_of (zk_r (zk_l (zk_r (zk_r (zk_r zdX0_weigh_167)))))
theorem dX0_weigh_109 : decode cX0_weigh 109 = .ok (.sipush 400, 3) := zk_of (zk_l (zk_r (zk_r (zk_r (zk_r zdX0_weigh_167)))))
theorem dX0_weigh_112 : decode cX0_weigh 112 = .ok (.iload 4, 2) := zk_of (zk_r (zk_r (zk_r (zk_r (zk_r zdX0_weigh_167)))))
set_option maxRecDepth 20000 in
theorem ggX0_weigh_X7_leanOf : GoodIn wsX0_weigh wsX7_leanOf := ggi (fun w h => List.mem_cons_of_mem _ (List.mem_append_left _ (List.mem_append_left _ (List.mem_append_left _ (List.mem_append_left _ (List.mem_append_left _ (List.mem_append_right _ (List.mem_append_left _ h)))))))) gs_X7_leanOf
set_option maxRecDepth 20000 in
theorem gX0_weigh_X7_leanOf : GoodIn wsX0_weigh (wsV RX0 38 RX7 yX7_leanOf wsX7_leanOf) := goodIn_app (goodIn_of _ (by decide +kernel)) ggX0_weigh_X7_leanOf
set_option maxRecDepth 20000 in
theorem ggX0_weigh_X11_shine : GoodIn wsX0_weigh wsX11_shine := ggi (fun w h => List.mem_cons_of_mem _ (List.mem_append_left _ (List.mem_append_left _ (List.mem_append_left _ (List.mem_append_left _ (List.mem_append_left _ (List.mem_append_right _ (List.mem_append_right _ h)))))))) gs_X11_shine
set_option maxRecDepth 20000 in
theorem gX0_weigh_X11_shine_n47 : GoodIn wsX0_weigh (wsX11_shine) := ggX0_weigh_X11_shine
theorem zdX0_weigh_114 : (and (and (and (and (and (zk cX0_weigh 114 (.invokestatic 47) 3) (zk cX0_weigh 117 (.istore 7) 2)) (and (zk cX0_weigh 119 (.aload_n 0) 1) (zk cX0_weigh 120 (.getfield 15) 3))) (and (and (zk cX0_weigh 123 (.aload_n 0) 1) (zk cX0_weigh 124 (.getfield 71) 3)) (and (zk cX0_weigh 127 (.bipush 12) 2) (zk cX0_weigh 129 (.imul) 1)))) (and (and (and (zk cX0_weigh 130 (.iload_n 3) 1) (zk cX0_weigh 131 (.iadd) 1)) (and (zk cX0_weigh 132 (.iload_n 2) 1) (zk cX0_weigh 133 (.ifCond .eq 20) 3))) (and (and (zk cX0_weigh 153 (.iload 5) 2) (zk cX0_weigh 155 (.iload 6) 2)) (and (zk cX0_weigh 157 (.invokestatic 64) 3) (zk cX0_weigh 160 (.iconst 0) 1))))) (and (and (and (and (zk cX0_weigh 161 (.iload 7) 2) (zk cX0_weigh 163 (.invokestatic 64) 3)) (and (zk cX0_weigh 166 (.isub) 1) (zk cX0_weigh 136 (.iconst 0) 1))) (and (and (zk cX0_weigh 137 (.iload 7) 2) (zk cX0_weigh 139 (.invokestatic 56) 3)) (and (zk cX0_weigh 142 (.iload 5) 2) (zk cX0_weigh 144 (.iload 6) 2)))) (and (and (and (zk cX0_weigh 146 (.invokestatic 56) 3) (zk cX0_weigh 149 (.isub) 1)) (and (zk cX0_weigh 150 (.goto 17) 3) (zk cX0_weigh 174 (.aload_n 0) 1))) (and (and (zk cX0_weigh 175 (.dup) 1) (zk cX0_weigh 176 (.getfield 71) 3)) (and (zk cX0_weigh 179 (.iconst 1) 1) (zk cX0_weigh 180 (.iadd) 1)))))) = true := by decide +kernel
theorem dX0_weigh_114 : decode cX0_weigh 114 = .ok (.invokestatic 47, 3) := zk_of (zk_l (zk_l (zk_l (zk_l (zk_l zdX0_weigh_114)))))
theorem dX0_weigh_117 : decode cX0_weigh 117 = .ok (.istore 7, 2) := zk_of (zk_r (zk_l (zk_l (zk_l (zk_l zdX0_weigh_114)))))
theorem dX0_weigh_119 : decode cX0_weigh 119 = .ok (.aload_n 0, 1) := zk_of (zk_l (zk_r (zk_l (zk_l (zk_l zdX0_weigh_114)))))
theorem dX0_weigh_120 : decode cX0_weigh 120 = .ok (.getfield 15, 3) := zk_of (zk_r (zk_r (zk_l (zk_l (zk_l zdX0_weigh_114)))))
theorem dX0_weigh_123 : decode cX0_weigh 123 = .ok (.aload_n 0, 1) := zk_of (zk_l (zk_l (zk_r (zk_l (zk_l zdX0_weigh_114)))))
theorem dX0_weigh_124 : decode cX0_weigh 124 = .ok (.getfield 71, 3) := zk_of (zk_r (zk_l (zk_r (zk_l (zk_l zdX0_weigh_114)))))
theorem dX0_weigh_127 : decode cX0_weigh 127 = .ok (.bipush 12, 2) := zk_of (zk_l (zk_r (zk_r (zk_l (zk_l zdX0_weigh_114)))))
theorem dX0_weigh_129 : decode cX0_weigh 129 = .ok (.imul, 1) := zk_of (zk_r (zk_r (zk_r (zk_l (zk_l zdX0_weigh_114)))))
theorem dX0_weigh_130 : decode cX0_weigh 130 = .ok (.iload_n 3, 1) := zk_of (zk_l (zk_l (zk_l (zk_r (zk_l zdX0_weigh_114)))))
theorem dX0_weigh_131 : decode cX0_weigh 131 = .ok (.iadd, 1) := zk_of (zk_r (zk_l (zk_l (zk_r (zk_l zdX0_weigh_114)))))
theorem dX0_weigh_132 : decode cX0_weigh 132 = .ok (.iload_n 2, 1) := zk_of (zk_l (zk_r (zk_l (zk_r (zk_l zdX0_weigh_114)))))
theorem dX0_weigh_133 : decode cX0_weigh 133 = .ok (.ifCond .eq 20, 3) := zk_of (zk_r (zk_r (zk_l (zk_r (zk_l zdX0_weigh_114)))))
theorem dX0_weigh_153 : decode cX0_weigh 153 = .ok (.iload 5, 2) := zk_of (zk_l (zk_l (zk_r (zk_r (zk_l zdX0_weigh_114)))))
theorem dX0_weigh_155 : decode cX0_weigh 155 = .ok (.iload 6, 2) := zk_of (zk_r (zk_l (zk_r (zk_r (zk_l zdX0_weigh_114)))))
theorem dX0_weigh_157 : decode cX0_weigh 157 = .ok (.invokestatic 64, 3) := zk_of (zk_l (zk_r (zk_r (zk_r (zk_l zdX0_weigh_114)))))
theorem dX0_weigh_160 : decode cX0_weigh 160 = .ok (.iconst 0, 1) := zk_of (zk_r (zk_r (zk_r (zk_r (zk_l zdX0_weigh_114)))))
theorem dX0_weigh_161 : decode cX0_weigh 161 = .ok (.iload 7, 2) := zk_of (zk_l (zk_l (zk_l (zk_l (zk_r zdX0_weigh_114)))))
theorem dX0_weigh_163 : decode cX0_weigh 163 = .ok (.invokestatic 64, 3) := zk_of (zk_r (zk_l (zk_l (zk_l (zk_r zdX0_weigh_114)))))
theorem dX0_weigh_166 : decode cX0_weigh 166 = .ok (.isub, 1) := zk_of (zk_l (zk_r (zk_l (zk_l (zk_r zdX0_weigh_114)))))
theorem dX0_weigh_136 : decode cX0_weigh 136 = .ok (.iconst 0, 1) := zk_of (zk_r (zk_r (zk_l (zk_l (zk_r zdX0_weigh_114)))))
theorem dX0_weigh_137 : decode cX0_weigh 137 = .ok (.iload 7, 2) := zk_of (zk_l (zk_l (zk_r (zk_l (zk_r zdX0_weigh_114)))))
theorem dX0_weigh_139 : decode cX0_weigh 139 = .ok (.invokestatic 56, 3) := zk_of (zk_r (zk_l (zk_r (zk_l (zk_r zdX0_weigh_114)))))
theorem dX0_weigh_142 : decode cX0_weigh 142 = .ok (.iload 5, 2) := zk_of (zk_l (zk_r (zk_r (zk_l (zk_r zdX0_weigh_114)))))
theorem dX0_weigh_144 : decode cX0_weigh 144 = .ok (.iload 6, 2) := zk_of (zk_r (zk_r (zk_r (zk_l (zk_r zdX0_weigh_114)))))
theorem dX0_weigh_146 : decode cX0_weigh 146 = .ok (.invokestatic 56, 3) := zk_of (zk_l (zk_l (zk_l (zk_r (zk_r zdX0_weigh_114)))))
theorem dX0_weigh_149 : decode cX0_weigh 149 = .ok (.isub, 1) := zk_of (zk_r (zk_l (zk_l (zk_r (zk_r zdX0_weigh_114)))))
theorem dX0_weigh_150 : decode cX0_weigh 150 = .ok (.goto 17, 3) := zk_of (zk_l (zk_r (zk_l (zk_r (zk_r zdX0_weigh_114)))))
theorem dX0_weigh_174 : decode cX0_weigh 174 = .ok (.aload_n 0, 1) := zk_of (zk_r (zk_r (zk_l (zk_r (zk_r zdX0_weigh_114)))))
theorem dX0_weigh_175 : decode cX0_weigh 175 = .ok (.dup, 1) := zk_of (zk_l (zk_l (zk_r (zk_r (zk_r zdX0_weigh_114)))))
theorem dX0_weigh_176 : decode cX0_weigh 176 = .ok (.getfield 71, 3) := zk_of (zk_r (zk_l (zk_r (zk_r (zk_r zdX0_weigh_114)))))
theorem dX0_weigh_179 : decode cX0_weigh 179 = .ok (.iconst 1, 1) := zk_of (zk_l (zk_r (zk_r (zk_r (zk_r zdX0_weigh_114)))))
theorem dX0_weigh_180 : decode cX0_weigh 180 = .ok (.iadd, 1) := zk_of (zk_r (zk_r (zk_r (zk_r (zk_r zdX0_weigh_114)))))
theorem zdX0_weigh_181 : (and (and (and (and (and (zk cX0_weigh 181 (.putfield 71) 3) (zk cX0_weigh 184 (.return_) 1)) (and (zk cX0_weigh 52 (.iastore) 1) (zk cX0_weigh 53 (.iconst 0) 1))) (and (and (zk cX0_weigh 54 (.istore_n 3) 1) (zk cX0_weigh 17 (.istore_n 2) 1)) (and (zk cX0_weigh 18 (.aload_n 0) 1) (zk cX0_weigh 19 (.getfield 9) 3)))) (and (and (and (zk cX0_weigh 22 (.aload_n 0) 1) (zk cX0_weigh 23 (.getfield 71) 3)) (and (zk cX0_weigh 26 (.iload_n 2) 1) (zk cX0_weigh 27 (.ifCond .eq 15) 3))) (and (and (zk cX0_weigh 42 (.aload_n 0) 1) (zk cX0_weigh 43 (.getfield 18) 3)) (and (zk cX0_weigh 46 (.getfield 61) 3) (zk cX0_weigh 49 (.iload_n 1) 1))))) (and (and (and (and (zk cX0_weigh 50 (.iaload) 1) (zk cX0_weigh 51 (.ineg) 1)) (and (zk cX0_weigh 30 (.aload_n 0) 1) (zk cX0_weigh 31 (.getfield 18) 3))) (and (and (zk cX0_weigh 34 (.getfield 53) 3) (zk cX0_weigh 37 (.iload_n 1) 1)) (and (zk cX0_weigh 38 (.iaload) 1) (zk cX0_weigh 39 (.goto 13) 3)))) (and (and (and (zk cX0_weigh 0 (.aload_n 0) 1) (zk cX0_weigh 1 (.getfield 18) 3)) (and (zk cX0_weigh 4 (.getfield 53) 3) (zk cX0_weigh 7 (.iload_n 1) 1))) (and (and (zk cX0_weigh 8 (.iaload) 1) (zk cX0_weigh 9 (.ifCond .le 7) 3)) (and (zk cX0_weigh 16 (.iconst 0) 1) (zk cX0_weigh 12 (.iconst 1) 1)))))) = true := by decide +kernel
theorem dX0_weigh_181 : decode cX0_weigh 181 = .ok (.putfield 71, 3) := zk_of (zk_l (zk_l (zk_l (zk_l (zk_l zdX0_weigh_181)))))
theorem dX0_weigh_184 : decode cX0_weigh 184 = .ok (.return_, 1) := zk_of (zk_r (zk_l (zk_l (zk_l (zk_l zdX0_weigh_181)))))
theorem dX0_weigh_52 : decode cX0_weigh 52 = .ok (.iastore, 1) := zk_of (zk_l (zk_r (zk_l (zk_l (zk_l zdX0_weigh_181)))))
theorem dX0_weigh_53 : decode cX0_weigh 53 = .ok (.iconst 0, 1) := zk_of (zk_r (zk_r (zk_l (zk_l (zk_l zdX0_weigh_181)))))
theorem dX0_weigh_54 : decode cX0_weigh 54 = .ok (.istore_n 3, 1) := zk_of (zk_l (zk_l (zk_r (zk_l (zk_l zdX0_weigh_181)))))
theorem dX0_weigh_17 : decode cX0_weigh 17 = .ok (.istore_n 2, 1) := zk_of (zk_r (zk_l (zk_r (zk_l (zk_l zdX0_weigh_181)))))
theorem dX0_weigh_18 : decode cX0_weigh 18 = .ok (.aload_n 0, 1) := zk_of (zk_l (zk_r (zk_r (zk_l (zk_l zdX0_weigh_181)))))
theorem dX0_weigh_19 : decode cX0_weigh 19 = .ok (.getfield 9, 3) := zk_of (zk_r (zk_r (zk_r (zk_l (zk_l zdX0_weigh_181)))))
theorem dX0_weigh_22 : decode cX0_weigh 22 = .ok (.aload_n 0, 1) := zk_of (zk_l (zk_l (zk_l (zk_r (zk_l zdX0_weigh_181)))))
theorem dX0_weigh_23 : decode cX0_weigh 23 = .ok (.getfield 71, 3) := zk_of (zk_r (zk_l (zk_l (zk_r (zk_l zdX0_weigh_181)))))
theorem dX0_weigh_26 : decode cX0_weigh 26 = .ok (.iload_n 2, 1) := zk_of (zk_l (zk_r (zk_l (zk_r (zk_l zdX0_weigh_181)))))
theorem dX0_weigh_27 : decode cX0_weigh 27 = .ok (.ifCond .eq 15, 3) := zk_of (zk_r (zk_r (zk_l (zk_r (zk_l zdX0_weigh_181)))))
theorem dX0_weigh_42 : decode cX0_weigh 42 = .ok (.aload_n 0, 1) := zk_of (zk_l (zk_l (zk_r (zk_r (zk_l zdX0_weigh_181)))))
theorem dX0_weigh_43 : decode cX0_weigh 43 = .ok (.getfield 18, 3) := zk_of (zk_r (zk_l (zk_r (zk_r (zk_l zdX0_weigh_181)))))
theorem dX0_weigh_46 : decode cX0_weigh 46 = .ok (.getfield 61, 3) := zk_of (zk_l (zk_r (zk_r (zk_r (zk_l zdX0_weigh_181)))))
theorem dX0_weigh_49 : decode cX0_weigh 49 = .ok (.iload_n 1, 1) := zk_of (zk_r (zk_r (zk_r (zk_r (zk_l zdX0_weigh_181)))))
theorem dX0_weigh_50 : decode cX0_weigh 50 = .ok (.iaload, 1) := zk_of (zk_l (zk_l (zk_l (zk_l (zk_r zdX0_weigh_181)))))
theorem dX0_weigh_51 : decode cX0_weigh 51 = .ok (.ineg, 1) := zk_of (zk_r (zk_l (zk_l (zk_l (zk_r zdX0_weigh_181)))))
theorem dX0_weigh_30 : decode cX0_weigh 30 = .ok (.aload_n 0, 1) := zk_of (zk_l (zk_r (zk_l (zk_l (zk_r zdX0_weigh_181)))))
theorem dX0_weigh_31 : decode cX0_weigh 31 = .ok (.getfield 18, 3) := zk_of (zk_r (zk_r (zk_l (zk_l (zk_r zdX0_weigh_181)))))
theorem dX0_weigh_34 : decode cX0_weigh 34 = .ok (.getfield 53, 3) := zk_of (zk_l (zk_l (zk_r (zk_l (zk_r zdX0_weigh_181)))))
theorem dX0_weigh_37 : decode cX0_weigh 37 = .ok (.iload_n 1, 1) := zk_of (zk_r (zk_l (zk_r (zk_l (zk_r zdX0_weigh_181)))))
theorem dX0_weigh_38 : decode cX0_weigh 38 = .ok (.iaload, 1) := zk_of (zk_l (zk_r (zk_r (zk_l (zk_r zdX0_weigh_181)))))
theorem dX0_weigh_39 : decode cX0_weigh 39 = .ok (.goto 13, 3) := zk_of (zk_r (zk_r (zk_r (zk_l (zk_r zdX0_weigh_181)))))
theorem dX0_weigh_0 : decode cX0_weigh 0 = .ok (.aload_n 0, 1) := zk_of (zk_l (zk_l (zk_l (zk_r (zk_r zdX0_weigh_181)))))
theorem dX0_weigh_1 : decode cX0_weigh 1 = .ok (.getfield 18, 3) := zk_of (zk_r (zk_l (zk_l (zk_r (zk_r zdX0_weigh_181)))))
theorem dX0_weigh_4 : decode cX0_weigh 4 = .ok (.getfield 53, 3) := zk_of (zk_l (zk_r (zk_l (zk_r (zk_r zdX0_weigh_181)))))
theorem dX0_weigh_7 : decode cX0_weigh 7 = .ok (.iload_n 1, 1) := zk_of (zk_r (zk_r (zk_l (zk_r (zk_r zdX0_weigh_181)))))
theorem dX0_weigh_8 : decode cX0_weigh 8 = .ok (.iaload, 1) := zk_of (zk_l (zk_l (zk_r (zk_r (zk_r zdX0_weigh_181)))))
theorem dX0_weigh_9 : decode cX0_weigh 9 = .ok (.ifCond .le 7, 3) := zk_of (zk_r (zk_l (zk_r (zk_r (zk_r zdX0_weigh_181)))))
theorem dX0_weigh_16 : decode cX0_weigh 16 = .ok (.iconst 0, 1) := zk_of (zk_l (zk_r (zk_r (zk_r (zk_r zdX0_weigh_181)))))
theorem dX0_weigh_12 : decode cX0_weigh 12 = .ok (.iconst 1, 1) := zk_of (zk_r (zk_r (zk_r (zk_r (zk_r zdX0_weigh_181)))))
theorem dX0_weigh_13 : decode cX0_weigh 13 = .ok (.goto 4, 3) := by decide +kernel
/-- HissHorn$Blame.weigh(I)V of cell 9 -/
def rmX0_weigh_9 : Room := { frames := 5, cells := 0, slots := 0, locals := 111 }
theorem hX0_weigh_9_X0 : ∀ w ∈ u_ws RX0 TX0 9, w ∈ wsX0_weigh := fun w h => (List.mem_cons_of_mem _ (List.mem_append_left _ (List.mem_append_left _ (List.mem_append_left _ (List.mem_append_left _ (List.mem_append_right _ h))))))
theorem mX0_weigh_9_1 : Cond.fieldLink RX0 18 "HissHorn$Blame" "readings" "LHissHorn$Readings;" ∈ wsX0_weigh := (List.mem_cons_of_mem _ (List.mem_append_left _ (List.mem_append_left _ (List.mem_append_left _ (List.mem_append_left _ (List.mem_append_left _ (List.mem_append_left _ (List.mem_of_getElem? (i := 4) rfl))))))))
theorem hX0_weigh_9_X7 : ∀ w ∈ u_ws RX7 TX7 12, w ∈ wsX0_weigh := fun w h => (List.mem_cons_of_mem _ (List.mem_append_left _ (List.mem_append_left _ (List.mem_append_left _ (List.mem_append_right _ h)))))
theorem mX0_weigh_9_3 : Cond.fieldLink RX0 53 "HissHorn$Readings" "lower" "[I" ∈ wsX0_weigh := (List.mem_cons_of_mem _ (List.mem_append_left _ (List.mem_append_left _ (List.mem_append_left _ (List.mem_append_left _ (List.mem_append_left _ (List.mem_append_left _ (List.mem_of_getElem? (i := 5) rfl))))))))
theorem mX0_weigh_9_4 : Cond.fieldLink RX0 9 "HissHorn$Blame" "lack" "[I" ∈ wsX0_weigh := (List.mem_cons_of_mem _ (List.mem_append_left _ (List.mem_append_left _ (List.mem_append_left _ (List.mem_append_left _ (List.mem_append_left _ (List.mem_append_left _ (List.mem_of_getElem? (i := 6) rfl))))))))
theorem mX0_weigh_9_5 : Cond.fieldLink RX0 71 "HissHorn$Blame" "lacking" "I" ∈ wsX0_weigh := (List.mem_cons_of_mem _ (List.mem_append_left _ (List.mem_append_left _ (List.mem_append_left _ (List.mem_append_left _ (List.mem_append_left _ (List.mem_append_left _ (List.mem_of_getElem? (i := 7) rfl))))))))
theorem mX0_weigh_9_6 : Cond.fieldLink RX0 61 "HissHorn$Readings" "upper" "[I" ∈ wsX0_weigh := (List.mem_cons_of_mem _ (List.mem_append_left _ (List.mem_append_left _ (List.mem_append_left _ (List.mem_append_left _ (List.mem_append_left _ (List.mem_append_left _ (List.mem_of_getElem? (i := 8) rfl))))))))
theorem mX0_weigh_9_7 : Cond.fieldLink RX0 22 "HissHorn$Blame" "parts" "LHissHorn$Parts;" ∈ wsX0_weigh := (List.mem_cons_of_mem _ (List.mem_append_left _ (List.mem_append_left _ (List.mem_append_left _ (List.mem_append_left _ (List.mem_append_left _ (List.mem_append_left _ (List.mem_of_getElem? (i := 9) rfl))))))))
theorem hX0_weigh_9_X6 : ∀ w ∈ u_ws RX6 TX6 17, w ∈ wsX0_weigh := fun w h => (List.mem_cons_of_mem _ (List.mem_append_left _ (List.mem_append_left _ (List.mem_append_right _ h))))
theorem mX0_weigh_9_9 : Cond.fieldLink RX0 81 "HissHorn$Parts" "known" "I" ∈ wsX0_weigh := (List.mem_cons_of_mem _ (List.mem_append_left _ (List.mem_append_left _ (List.mem_append_left _ (List.mem_append_left _ (List.mem_append_left _ (List.mem_append_left _ (List.mem_of_getElem? (i := 10) rfl))))))))
theorem mX0_weigh_9_10 : Cond.fieldLink RX0 42 "HissHorn$Parts" "low" "[I" ∈ wsX0_weigh := (List.mem_cons_of_mem _ (List.mem_append_left _ (List.mem_append_left _ (List.mem_append_left _ (List.mem_append_left _ (List.mem_append_left _ (List.mem_append_left _ (List.mem_of_getElem? (i := 11) rfl))))))))
theorem mX0_weigh_9_11 : Cond.initialized RX11 ∈ wsX0_weigh := (List.mem_cons_of_mem _ (List.mem_append_left _ (List.mem_append_left _ (List.mem_append_left _ (List.mem_append_left _ (List.mem_append_left _ (List.mem_append_left _ (List.mem_of_getElem? (i := 12) rfl))))))))
theorem mX0_weigh_9_12 : Cond.static yX11_shine ∈ wsX0_weigh := (List.mem_cons_of_mem _ (List.mem_append_left _ (List.mem_append_left _ (List.mem_append_left _ (List.mem_append_left _ (List.mem_append_left _ (List.mem_append_left _ (List.mem_of_getElem? (i := 13) rfl))))))))
theorem mX0_weigh_9_13 : Cond.fieldLink RX0 50 "HissHorn$Parts" "high" "[I" ∈ wsX0_weigh := (List.mem_cons_of_mem _ (List.mem_append_left _ (List.mem_append_left _ (List.mem_append_left _ (List.mem_append_left _ (List.mem_append_left _ (List.mem_append_left _ (List.mem_of_getElem? (i := 14) rfl))))))))
theorem mX0_weigh_9_14 : Cond.fieldLink RX0 15 "HissHorn$Blame" "gain" "[I" ∈ wsX0_weigh := (List.mem_cons_of_mem _ (List.mem_append_left _ (List.mem_append_left _ (List.mem_append_left _ (List.mem_append_left _ (List.mem_append_left _ (List.mem_append_left _ (List.mem_of_getElem? (i := 15) rfl))))))))
theorem mX0_weigh_9_15 : Cond.methodLink RX0 64 Lib.Math.min.name ∈ wsX0_weigh := (List.mem_cons_of_mem _ (List.mem_append_left _ (List.mem_append_left _ (List.mem_append_left _ (List.mem_append_left _ (List.mem_append_left _ (List.mem_append_left _ (List.mem_of_getElem? (i := 16) rfl))))))))
theorem mX0_weigh_9_16 : Cond.static Lib.Math.min.name ∈ wsX0_weigh := (List.mem_cons_of_mem _ (List.mem_append_left _ (List.mem_append_left _ (List.mem_append_left _ (List.mem_append_left _ (List.mem_append_left _ (List.mem_append_left _ (List.mem_of_getElem? (i := 17) rfl))))))))
theorem mX0_weigh_9_17 : Cond.initialized "java/lang/Math" ∈ wsX0_weigh := (List.mem_cons_of_mem _ (List.mem_append_left _ (List.mem_append_left _ (List.mem_append_left _ (List.mem_append_left _ (List.mem_append_left _ (List.mem_append_left _ (List.mem_of_getElem? (i := 18) rfl))))))))
theorem mX0_weigh_9_18 : Cond.code Lib.Math.min.name Lib.Math.min.code 2 (some .int) ∈ wsX0_weigh := (List.mem_cons_of_mem _ (List.mem_append_left _ (List.mem_append_left _ (List.mem_append_left _ (List.mem_append_left _ (List.mem_append_left _ (List.mem_append_left _ (List.mem_of_getElem? (i := 19) rfl))))))))
def GX0_weigh_9_167 (k55 : Int32 → Int32 → Int32 → SX → Option (Int32 × SX)) (z1 : Int32) (z2 : Int32) (z3 : Int32) (y0 : Int32) (y1 : Int32) (u : SX) : Option (Int32 × SX) := (gd (inb y1 960) (lt (sA u 47 (upd (u.2.1 47) y1.toNatClampNeg y0)) fun u21 => (k55 z1 z2 (z3 + 1) u21)))
theorem mX0_weigh_9_19 : Cond.methodLink RX0 56 Lib.Math.max.name ∈ wsX0_weigh := (List.mem_cons_of_mem _ (List.mem_append_left _ (List.mem_append_left _ (List.mem_append_left _ (List.mem_append_left _ (List.mem_append_left _ (List.mem_append_left _ (List.mem_of_getElem? (i := 20) rfl))))))))
theorem mX0_weigh_9_20 : Cond.static Lib.Math.max.name ∈ wsX0_weigh := (List.mem_cons_of_mem _ (List.mem_append_left _ (List.mem_append_left _ (List.mem_append_left _ (List.mem_append_left _ (List.mem_append_left _ (List.mem_append_left _ (List.mem_of_getElem? (i := 21) rfl))))))))
theorem mX0_weigh_9_21 : Cond.code Lib.Math.max.name Lib.Math.max.code 2 (some .int) ∈ wsX0_weigh := (List.mem_cons_of_mem _ (List.mem_append_left _ (List.mem_append_left _ (List.mem_append_left _ (List.mem_append_left _ (List.mem_append_left _ (List.mem_append_left _ (List.mem_of_getElem? (i := 22) rfl))))))))
def LX0_weigh_9_55 (k174 : SX → Option (Int32 × SX)) : Nat → Int32 → Int32 → Int32 → SX → Option (Int32 × SX)
  | 0, _, _, _, _ => none
  | n + 1, z1, z2, z3, u => (if (u.1 10) ≤ z3 then (k174 u) else ((fX7_leanOf_7 z1 z3 u).bind fun q => match q with | (r6, u7) => (gd (inb z3 12) ((fX11_shine (u7.2.1 27 z3.toNatClampNeg) r6).bind fun r10 => (gd (inb z3 12) ((fX11_shine (u7.2.1 28 z3.toNatClampNeg) r6).bind fun r14 => ((fX11_shine 400 r6).bind fun r17 => (if z2 = 0 then (GX0_weigh_9_167 (LX0_weigh_9_55 k174 n) z1 z2 z3 ((if r14 < r10 then r14 else r10) - (if r17 < 0 then r17 else 0)) (((u7.1 26) * 12) + z3) u7) else (GX0_weigh_9_167 (LX0_weigh_9_55 k174 n) z1 z2 z3 ((if 0 < r17 then r17 else 0) - (if r10 < r14 then r14 else r10)) (((u7.1 26) * 12) + z3) u7)))))))))
def GX0_weigh_9_174  (u : SX) : Option (Int32 × SX) := (lt (sI u 26 ((u.1 26) + 1)) fun u23 => (some (0, u23)))
def GX0_weigh_9_52 (z1 : Int32) (z2 : Int32) (y0 : Int32) (y1 : Int32) (u : SX) : Option (Int32 × SX) := (gd (inb y1 80) (lt (sA u 46 (upd (u.2.1 46) y1.toNatClampNeg y0)) fun u4 => (LX0_weigh_9_55 GX0_weigh_9_174 5000 z1 z2 0 u4)))
def GX0_weigh_9_17 (z1 : Int32) (y0 : Int32) (u : SX) : Option (Int32 × SX) := (if y0 = 0 then (gd (inb z1 80) (GX0_weigh_9_52 z1 y0 (-(u.2.1 39 z1.toNatClampNeg)) (u.1 26) u)) else (gd (inb z1 80) (GX0_weigh_9_52 z1 y0 (u.2.1 38 z1.toNatClampNeg) (u.1 26) u)))
def fX0_weigh_9 (x1 : Int32) (u : SX) : Option (Int32 × SX) := (gd (inb x1 80) (if (u.2.1 38 x1.toNatClampNeg) ≤ 0 then (GX0_weigh_9_17 x1 0 u) else (GX0_weigh_9_17 x1 1 u)))
set_option maxHeartbeats 4000000 in
set_option maxRecDepth 100000 in
theorem wGX0_weigh_9_167 {p : Program} {l : Launch} {e : Env} {s : State} {m : MethodId} {args : Array Value} {below : List Frame} {meth : Method} {c : Code} {D : va_G} {cy : Nat → ClassId} {ad st : Nat → Nat} (C : Cx RX0 cX0_weigh 8 none wsX0_weigh p s m args meth c) (hK : Ky D [(cy 0, .int), (cy 1, .long), (cy 2, .boolean), (cy 3, .byte), (cy 4, .object "HissHorn$Text")] st s) (hJ : JX ad st) {r : Int32} {u' : SX} {k55 : Int32 → Int32 → Int32 → SX → Option (Int32 × SX)} (hk55 : ∀ (z1 : Int32) (z2 : Int32) (z3 : Int32) (u : SX) (H : Heap) (locs : List Loc) (ls : Array Slot), k55 z1 z2 z3 u = some (r, u') → va_P D vwCl (VX cy ad st u) H → va_S (Ax (AX ad) s.heap.size) s.heap H locs → lv_has ls 8 [(0, .ref (ad 9)), (1, .int z1), (2, .int z2), (3, .int z3)] → W p l e rmX0_weigh_9 s m args below meth c H locs 0 0 (MQ below (Qv D (VX cy ad st) (AX ad) s.heap.size r u') args s 0 0 (Ax (AX ad) s.heap.size)) (F0 m 55 ls [])) (z1 : Int32) (z2 : Int32) (z3 : Int32) (y0 : Int32) (y1 : Int32) (u : SX) (H : Heap) (locs : List Loc) (ls : Array Slot) (h : GX0_weigh_9_167 k55 z1 z2 z3 y0 y1 u = some (r, u')) (hP : va_P D vwCl (VX cy ad st u) H) (hS : va_S (Ax (AX ad) s.heap.size) s.heap H locs) (hl : lv_has ls 8 [(0, .ref (ad 9)), (1, .int z1), (2, .int z2), (3, .int z3)]) : W p l e rmX0_weigh_9 s m args below meth c H locs 0 0 (MQ below (Qv D (VX cy ad st) (AX ad) s.heap.size r u') args s 0 0 (Ax (AX ad) s.heap.size)) (F0 m 167 ls [.int y0, .int y1, .ref (ad 47)]) := by
  unfold GX0_weigh_9_167 at h
  obtain ⟨hg20, h⟩ := gd_some h
  refine tX_47 C hK hP hJ hS hg20 dX0_weigh_167 (fun H locs hP hS => ?_)
  obtain ⟨u21, hu22, h⟩ := lt_some h
  rw [← hu22] at hP
  refine lv_iinc (v := z3 + 1) (lv' := [(3, .int (z3 + 1)), (0, .ref (ad 9)), (1, .int z1), (2, .int z2)]) C.1 C.2.1 dX0_weigh_168 hl (k := 3) rfl rfl (by decide) rfl (fun ls hl => ?_)
  replace hl := lv_sub (l' := [(0, .ref (ad 9)), (1, .int z1), (2, .int z2), (3, .int (z3 + 1))]) hl [1, 2, 3, 0] rfl
  refine lv_goto (tgt := 55) C.1 C.2.1 dX0_weigh_171 (by decide) ?_
  exact hk55 _ _ _ _ _ _ _ h hP hS hl
set_option maxHeartbeats 4000000 in
set_option maxRecDepth 100000 in
theorem wLX0_weigh_9_55 {p : Program} {l : Launch} {e : Env} {s : State} {m : MethodId} {args : Array Value} {below : List Frame} {meth : Method} {c : Code} {D : va_G} {cy : Nat → ClassId} {ad st : Nat → Nat} (C : Cx RX0 cX0_weigh 8 none wsX0_weigh p s m args meth c) (hK : Ky D [(cy 0, .int), (cy 1, .long), (cy 2, .boolean), (cy 3, .byte), (cy 4, .object "HissHorn$Text")] st s) (hJ : JX ad st) {r : Int32} {u' : SX} {k174 : SX → Option (Int32 × SX)} (hk174 : ∀  (u : SX) (H : Heap) (locs : List Loc) (ls : Array Slot), k174 u = some (r, u') → va_P D vwCl (VX cy ad st u) H → va_S (Ax (AX ad) s.heap.size) s.heap H locs → lv_has ls 8 [(0, .ref (ad 9))] → W p l e rmX0_weigh_9 s m args below meth c H locs 0 0 (MQ below (Qv D (VX cy ad st) (AX ad) s.heap.size r u') args s 0 0 (Ax (AX ad) s.heap.size)) (F0 m 174 ls [])) : ∀ (n : Nat) (z1 : Int32) (z2 : Int32) (z3 : Int32) (u : SX) (H : Heap) (locs : List Loc) (ls : Array Slot), LX0_weigh_9_55 k174 n z1 z2 z3 u = some (r, u') → va_P D vwCl (VX cy ad st u) H → va_S (Ax (AX ad) s.heap.size) s.heap H locs → lv_has ls 8 [(0, .ref (ad 9)), (1, .int z1), (2, .int z2), (3, .int z3)] → W p l e rmX0_weigh_9 s m args below meth c H locs 0 0 (MQ below (Qv D (VX cy ad st) (AX ad) s.heap.size r u') args s 0 0 (Ax (AX ad) s.heap.size)) (F0 m 55 ls []) := by
  intro n
  induction n with
  | zero =>
    intro z1 z2 z3 u H locs ls h
    exact absurd h (by intro q; cases q)
  | succ n ih =>
    intro z1 z2 z3 u H locs ls h hP hS hl
    rw [LX0_weigh_9_55] at h
    refine lv_iload_n C.1 C.2.1 dX0_weigh_55 rfl (lv_at hl 3 rfl) ?_
    refine lv_aload_n C.1 C.2.1 dX0_weigh_56 rfl (lv_at hl 0 rfl) ?_
    refine gX_9_parts C hX0_weigh_9_X0 hK hP mX0_weigh_9_7 dX0_weigh_57 ?_
    refine gX_6_known C hX0_weigh_9_X6 hK hP mX0_weigh_9_9 dX0_weigh_60 ?_
    refine lv_icmp_ge (tgt := 174) C.1 C.2.1 dX0_weigh_63 (by decide) (fun c63 => ?_) (fun c63 => ?_)
    · rw [if_pos c63] at h
      exact hk174 _ _ _ _ h hP hS (lv_sub hl [0] rfl)
    · rw [if_neg c63] at h
      refine lv_aload_n C.1 C.2.1 dX0_weigh_66 rfl (lv_at hl 0 rfl) ?_
      refine gX_9_readings C hX0_weigh_9_X0 hK hP mX0_weigh_9_1 dX0_weigh_67 ?_
      refine lv_iload_n C.1 C.2.1 dX0_weigh_70 rfl (lv_at hl 1 rfl) ?_
      refine lv_iload_n C.1 C.2.1 dX0_weigh_71 rfl (lv_at hl 3 rfl) ?_
      obtain ⟨⟨r6, u7⟩, hc8, h⟩ := bd_some h
      try dsimp only at h
      refine cg_i (As := [.int z1, .int z3]) (rest := []) (AX_ge hJ) C hK hP hS (metX7_leanOf_7 l D cy ad st hJ _ z1 z3 hc8) (cwV 2 C.2.2.2.2.2.1 gX0_weigh_X7_leanOf rfl rfl rfl (by decide +kernel) ⟨(Nat.le_of_ble_eq_true rfl), (Nat.le_of_ble_eq_true rfl)⟩) 7 7 rfl rfl rfl hl.1 rfl (Nat.le_of_ble_eq_true rfl) dX0_weigh_72 ⟨Nat.zero_le _, Nat.zero_le _⟩ (fun H locs hP hS => ?_)
      refine lv_istore (lv' := [(4, .int r6), (0, .ref (ad 9)), (1, .int z1), (2, .int z2), (3, .int z3)]) C.1 C.2.1 dX0_weigh_75 hl (by decide) rfl (fun ls hl => ?_)
      replace hl := lv_sub (l' := [(0, .ref (ad 9)), (1, .int z1), (2, .int z2), (3, .int z3), (4, .int r6)]) hl [1, 2, 3, 4, 0] rfl
      refine lv_aload_n C.1 C.2.1 dX0_weigh_77 rfl (lv_at hl 0 rfl) ?_
      refine gX_9_parts C hX0_weigh_9_X0 hK hP mX0_weigh_9_7 dX0_weigh_78 ?_
      refine gX_6_low C hX0_weigh_9_X6 hK hP mX0_weigh_9_10 dX0_weigh_81 ?_
      refine lv_iload_n C.1 C.2.1 dX0_weigh_84 rfl (lv_at hl 3 rfl) ?_
      obtain ⟨hg9, h⟩ := gd_some h
      refine lX_27 C hK hP hg9 dX0_weigh_85 ?_
      refine lv_iload C.1 C.2.1 dX0_weigh_86 (lv_at hl 4 rfl) ?_
      obtain ⟨r10, hc12, h⟩ := bd_some h
      refine csn_i (As := [.int (u7.2.1 27 z3.toNatClampNeg), .int r6]) (rest := []) (AX_ge hJ) C hK hP hS (metX11_shine l D cy st _ (u7.2.1 27 z3.toNatClampNeg) r6 hc12) ⟨va_cnB 2 C.2.2.2.2.2.1 gX0_weigh_X11_shine_n47 rfl rfl rfl (hK.2.1 (RX0, 47, yX11_shine) (by decide +kernel)) (C.2.2.2.2.2.1 _ mX0_weigh_9_11) (by decide +kernel) ⟨(Nat.le_of_ble_eq_true rfl), (Nat.le_of_ble_eq_true rfl)⟩, C.2.2.2.2.2.1 _ mX0_weigh_9_12, trivial⟩ rfl hl.1 rfl (Nat.le_of_ble_eq_true rfl) dX0_weigh_88 ⟨Nat.zero_le _, Nat.zero_le _⟩ (fun H locs hP hS => ?_)
      refine lv_istore (lv' := [(5, .int r10), (0, .ref (ad 9)), (1, .int z1), (2, .int z2), (3, .int z3), (4, .int r6)]) C.1 C.2.1 dX0_weigh_91 hl (by decide) rfl (fun ls hl => ?_)
      replace hl := lv_sub (l' := [(0, .ref (ad 9)), (1, .int z1), (2, .int z2), (3, .int z3), (4, .int r6), (5, .int r10)]) hl [1, 2, 3, 4, 5, 0] rfl
      refine lv_aload_n C.1 C.2.1 dX0_weigh_93 rfl (lv_at hl 0 rfl) ?_
      refine gX_9_parts C hX0_weigh_9_X0 hK hP mX0_weigh_9_7 dX0_weigh_94 ?_
      refine gX_6_high C hX0_weigh_9_X6 hK hP mX0_weigh_9_13 dX0_weigh_97 ?_
      refine lv_iload_n C.1 C.2.1 dX0_weigh_100 rfl (lv_at hl 3 rfl) ?_
      obtain ⟨hg13, h⟩ := gd_some h
      refine lX_28 C hK hP hg13 dX0_weigh_101 ?_
      refine lv_iload C.1 C.2.1 dX0_weigh_102 (lv_at hl 4 rfl) ?_
      obtain ⟨r14, hc16, h⟩ := bd_some h
      refine csn_i (As := [.int (u7.2.1 28 z3.toNatClampNeg), .int r6]) (rest := []) (AX_ge hJ) C hK hP hS (metX11_shine l D cy st _ (u7.2.1 28 z3.toNatClampNeg) r6 hc16) ⟨va_cnB 2 C.2.2.2.2.2.1 gX0_weigh_X11_shine_n47 rfl rfl rfl (hK.2.1 (RX0, 47, yX11_shine) (by decide +kernel)) (C.2.2.2.2.2.1 _ mX0_weigh_9_11) (by decide +kernel) ⟨(Nat.le_of_ble_eq_true rfl), (Nat.le_of_ble_eq_true rfl)⟩, C.2.2.2.2.2.1 _ mX0_weigh_9_12, trivial⟩ rfl hl.1 rfl (Nat.le_of_ble_eq_true rfl) dX0_weigh_104 ⟨Nat.zero_le _, Nat.zero_le _⟩ (fun H locs hP hS => ?_)
      refine lv_istore (lv' := [(6, .int r14), (0, .ref (ad 9)), (1, .int z1), (2, .int z2), (3, .int z3), (4, .int r6), (5, .int r10)]) C.1 C.2.1 dX0_weigh_107 hl (by decide) rfl (fun ls hl => ?_)
      replace hl := lv_sub (l' := [(0, .ref (ad 9)), (1, .int z1), (2, .int z2), (3, .int z3), (4, .int r6), (5, .int r10), (6, .int r14)]) hl [1, 2, 3, 4, 5, 6, 0] rfl
      refine lv_sipush (v := 400) C.1 C.2.1 dX0_weigh_109 (by decide) ?_
      refine lv_iload C.1 C.2.1 dX0_weigh_112 (lv_at hl 4 rfl) ?_
      obtain ⟨r17, hc19, h⟩ := bd_some h
      refine csn_i (As := [.int 400, .int r6]) (rest := []) (AX_ge hJ) C hK hP hS (metX11_shine l D cy st _ 400 r6 hc19) ⟨va_cnB 2 C.2.2.2.2.2.1 gX0_weigh_X11_shine_n47 rfl rfl rfl (hK.2.1 (RX0, 47, yX11_shine) (by decide +kernel)) (C.2.2.2.2.2.1 _ mX0_weigh_9_11) (by decide +kernel) ⟨(Nat.le_of_ble_eq_true rfl), (Nat.le_of_ble_eq_true rfl)⟩, C.2.2.2.2.2.1 _ mX0_weigh_9_12, trivial⟩ rfl hl.1 rfl (Nat.le_of_ble_eq_true rfl) dX0_weigh_114 ⟨Nat.zero_le _, Nat.zero_le _⟩ (fun H locs hP hS => ?_)
      refine lv_istore (lv' := [(7, .int r17), (0, .ref (ad 9)), (1, .int z1), (2, .int z2), (3, .int z3), (4, .int r6), (5, .int r10), (6, .int r14)]) C.1 C.2.1 dX0_weigh_117 hl (by decide) rfl (fun ls hl => ?_)
      replace hl := lv_sub (l' := [(0, .ref (ad 9)), (1, .int z1), (2, .int z2), (3, .int z3), (4, .int r6), (5, .int r10), (6, .int r14), (7, .int r17)]) hl [1, 2, 3, 4, 5, 6, 7, 0] rfl
      refine lv_aload_n C.1 C.2.1 dX0_weigh_119 rfl (lv_at hl 0 rfl) ?_
      refine gX_9_gain C hX0_weigh_9_X0 hK hP mX0_weigh_9_14 dX0_weigh_120 ?_
      refine lv_aload_n C.1 C.2.1 dX0_weigh_123 rfl (lv_at hl 0 rfl) ?_
      refine gX_9_lacking C hX0_weigh_9_X0 hK hP mX0_weigh_9_5 dX0_weigh_124 ?_
      refine lv_bipush (v := 12) C.1 C.2.1 dX0_weigh_127 (by decide) ?_
      refine lv_imul C.1 C.2.1 dX0_weigh_129 ?_
      refine lv_iload_n C.1 C.2.1 dX0_weigh_130 rfl (lv_at hl 3 rfl) ?_
      refine lv_iadd C.1 C.2.1 dX0_weigh_131 ?_
      refine lv_iload_n C.1 C.2.1 dX0_weigh_132 rfl (lv_at hl 2 rfl) ?_
      refine lv_if_eq (tgt := 153) C.1 C.2.1 dX0_weigh_133 (by decide) (fun c133 => ?_) (fun c133 => ?_)
      · rw [if_pos c133] at h
        refine lv_iload C.1 C.2.1 dX0_weigh_153 (lv_at hl 5 rfl) ?_
        refine lv_iload C.1 C.2.1 dX0_weigh_155 (lv_at hl 6 rfl) ?_
        refine va_mmin C.1 C.2.1 (C.2.2.1.trans hl.1.symm) C.2.2.2.2.1 (C.2.2.2.2.2.1 _ mX0_weigh_9_15) (C.2.2.2.2.2.1 _ mX0_weigh_9_16) (C.2.2.2.2.2.1 _ mX0_weigh_9_17) (C.2.2.2.2.2.1 _ mX0_weigh_9_18) (Nat.le_of_ble_eq_true rfl) (Nat.le_of_ble_eq_true rfl) (Nat.zero_le _) (Nat.zero_le _) dX0_weigh_157 ?_
        refine lv_iconst (v := 0) C.1 C.2.1 dX0_weigh_160 (by decide) ?_
        refine lv_iload C.1 C.2.1 dX0_weigh_161 (lv_at hl 7 rfl) ?_
        refine va_mmin C.1 C.2.1 (C.2.2.1.trans hl.1.symm) C.2.2.2.2.1 (C.2.2.2.2.2.1 _ mX0_weigh_9_15) (C.2.2.2.2.2.1 _ mX0_weigh_9_16) (C.2.2.2.2.2.1 _ mX0_weigh_9_17) (C.2.2.2.2.2.1 _ mX0_weigh_9_18) (Nat.le_of_ble_eq_true rfl) (Nat.le_of_ble_eq_true rfl) (Nat.zero_le _) (Nat.zero_le _) dX0_weigh_163 ?_
        refine lv_isub C.1 C.2.1 dX0_weigh_166 ?_
        exact wGX0_weigh_9_167 C hK hJ ih _ _ _ _ _ _ _ _ _ h hP hS (lv_sub hl [0, 1, 2, 3] rfl)
      · rw [if_neg c133] at h
        refine lv_iconst (v := 0) C.1 C.2.1 dX0_weigh_136 (by decide) ?_
        refine lv_iload C.1 C.2.1 dX0_weigh_137 (lv_at hl 7 rfl) ?_
        refine va_mmax C.1 C.2.1 (C.2.2.1.trans hl.1.symm) C.2.2.2.2.1 (C.2.2.2.2.2.1 _ mX0_weigh_9_19) (C.2.2.2.2.2.1 _ mX0_weigh_9_20) (C.2.2.2.2.2.1 _ mX0_weigh_9_17) (C.2.2.2.2.2.1 _ mX0_weigh_9_21) (Nat.le_of_ble_eq_true rfl) (Nat.le_of_ble_eq_true rfl) (Nat.zero_le _) (Nat.zero_le _) dX0_weigh_139 ?_
        refine lv_iload C.1 C.2.1 dX0_weigh_142 (lv_at hl 5 rfl) ?_
        refine lv_iload C.1 C.2.1 dX0_weigh_144 (lv_at hl 6 rfl) ?_
        refine va_mmax C.1 C.2.1 (C.2.2.1.trans hl.1.symm) C.2.2.2.2.1 (C.2.2.2.2.2.1 _ mX0_weigh_9_19) (C.2.2.2.2.2.1 _ mX0_weigh_9_20) (C.2.2.2.2.2.1 _ mX0_weigh_9_17) (C.2.2.2.2.2.1 _ mX0_weigh_9_21) (Nat.le_of_ble_eq_true rfl) (Nat.le_of_ble_eq_true rfl) (Nat.zero_le _) (Nat.zero_le _) dX0_weigh_146 ?_
        refine lv_isub C.1 C.2.1 dX0_weigh_149 ?_
        refine lv_goto (tgt := 167) C.1 C.2.1 dX0_weigh_150 (by decide) ?_
        exact wGX0_weigh_9_167 C hK hJ ih _ _ _ _ _ _ _ _ _ h hP hS (lv_sub hl [0, 1, 2, 3] rfl)
set_option maxHeartbeats 4000000 in
set_option maxRecDepth 100000 in
theorem wGX0_weigh_9_174 {p : Program} {l : Launch} {e : Env} {s : State} {m : MethodId} {args : Array Value} {below : List Frame} {meth : Method} {c : Code} {D : va_G} {cy : Nat → ClassId} {ad st : Nat → Nat} (C : Cx RX0 cX0_weigh 8 none wsX0_weigh p s m args meth c) (hK : Ky D [(cy 0, .int), (cy 1, .long), (cy 2, .boolean), (cy 3, .byte), (cy 4, .object "HissHorn$Text")] st s) (hJ : JX ad st) {r : Int32} {u' : SX}   (u : SX) (H : Heap) (locs : List Loc) (ls : Array Slot) (h : GX0_weigh_9_174  u = some (r, u')) (hP : va_P D vwCl (VX cy ad st u) H) (hS : va_S (Ax (AX ad) s.heap.size) s.heap H locs) (hl : lv_has ls 8 [(0, .ref (ad 9))]) : W p l e rmX0_weigh_9 s m args below meth c H locs 0 0 (MQ below (Qv D (VX cy ad st) (AX ad) s.heap.size r u') args s 0 0 (Ax (AX ad) s.heap.size)) (F0 m 174 ls []) := by
  unfold GX0_weigh_9_174 at h
  refine lv_aload_n C.1 C.2.1 dX0_weigh_174 rfl (lv_at hl 0 rfl) ?_
  refine lv_dup C.1 C.2.1 dX0_weigh_175 rfl ?_
  refine gX_9_lacking C hX0_weigh_9_X0 hK hP mX0_weigh_9_5 dX0_weigh_176 ?_
  refine lv_iconst (v := 1) C.1 C.2.1 dX0_weigh_179 (by decide) ?_
  refine lv_iadd C.1 C.2.1 dX0_weigh_180 ?_
  refine pX_9_lacking C hX0_weigh_9_X0 hK hP hJ hS mX0_weigh_9_5 dX0_weigh_181 (fun H locs hP hS => ?_)
  obtain ⟨u23, hu24, h⟩ := lt_some h
  rw [← hu24] at hP
  cases h
  exact rt_v C hP hS dX0_weigh_184
set_option maxHeartbeats 4000000 in
set_option maxRecDepth 100000 in
theorem wGX0_weigh_9_52 {p : Program} {l : Launch} {e : Env} {s : State} {m : MethodId} {args : Array Value} {below : List Frame} {meth : Method} {c : Code} {D : va_G} {cy : Nat → ClassId} {ad st : Nat → Nat} (C : Cx RX0 cX0_weigh 8 none wsX0_weigh p s m args meth c) (hK : Ky D [(cy 0, .int), (cy 1, .long), (cy 2, .boolean), (cy 3, .byte), (cy 4, .object "HissHorn$Text")] st s) (hJ : JX ad st) {r : Int32} {u' : SX}   (z1 : Int32) (z2 : Int32) (y0 : Int32) (y1 : Int32) (u : SX) (H : Heap) (locs : List Loc) (ls : Array Slot) (h : GX0_weigh_9_52 z1 z2 y0 y1 u = some (r, u')) (hP : va_P D vwCl (VX cy ad st u) H) (hS : va_S (Ax (AX ad) s.heap.size) s.heap H locs) (hl : lv_has ls 8 [(0, .ref (ad 9)), (1, .int z1), (2, .int z2)]) : W p l e rmX0_weigh_9 s m args below meth c H locs 0 0 (MQ below (Qv D (VX cy ad st) (AX ad) s.heap.size r u') args s 0 0 (Ax (AX ad) s.heap.size)) (F0 m 52 ls [.int y0, .int y1, .ref (ad 46)]) := by
  unfold GX0_weigh_9_52 at h
  obtain ⟨hg3, h⟩ := gd_some h
  refine tX_46 C hK hP hJ hS hg3 dX0_weigh_52 (fun H locs hP hS => ?_)
  obtain ⟨u4, hu5, h⟩ := lt_some h
  rw [← hu5] at hP
  refine lv_iconst (v := 0) C.1 C.2.1 dX0_weigh_53 (by decide) ?_
  refine lv_istore_n (lv' := [(3, .int 0), (0, .ref (ad 9)), (1, .int z1), (2, .int z2)]) C.1 C.2.1 dX0_weigh_54 rfl hl (by decide) rfl (fun ls hl => ?_)
  replace hl := lv_sub (l' := [(0, .ref (ad 9)), (1, .int z1), (2, .int z2), (3, .int 0)]) hl [1, 2, 3, 0] rfl
  exact wLX0_weigh_9_55 C hK hJ (wGX0_weigh_9_174 C hK hJ ) 5000 _ _ _ _ _ _ _ h hP hS hl
set_option maxHeartbeats 4000000 in
set_option maxRecDepth 100000 in
theorem wGX0_weigh_9_17 {p : Program} {l : Launch} {e : Env} {s : State} {m : MethodId} {args : Array Value} {below : List Frame} {meth : Method} {c : Code} {D : va_G} {cy : Nat → ClassId} {ad st : Nat → Nat} (C : Cx RX0 cX0_weigh 8 none wsX0_weigh p s m args meth c) (hK : Ky D [(cy 0, .int), (cy 1, .long), (cy 2, .boolean), (cy 3, .byte), (cy 4, .object "HissHorn$Text")] st s) (hJ : JX ad st) {r : Int32} {u' : SX}   (z1 : Int32) (y0 : Int32) (u : SX) (H : Heap) (locs : List Loc) (ls : Array Slot) (h : GX0_weigh_9_17 z1 y0 u = some (r, u')) (hP : va_P D vwCl (VX cy ad st u) H) (hS : va_S (Ax (AX ad) s.heap.size) s.heap H locs) (hl : lv_has ls 8 [(0, .ref (ad 9)), (1, .int z1)]) : W p l e rmX0_weigh_9 s m args below meth c H locs 0 0 (MQ below (Qv D (VX cy ad st) (AX ad) s.heap.size r u') args s 0 0 (Ax (AX ad) s.heap.size)) (F0 m 17 ls [.int y0]) := by
  unfold GX0_weigh_9_17 at h
  refine lv_istore_n (lv' := [(2, .int y0), (0, .ref (ad 9)), (1, .int z1)]) C.1 C.2.1 dX0_weigh_17 rfl hl (by decide) rfl (fun ls hl => ?_)
  replace hl := lv_sub (l' := [(0, .ref (ad 9)), (1, .int z1), (2, .int y0)]) hl [1, 2, 0] rfl
  refine lv_aload_n C.1 C.2.1 dX0_weigh_18 rfl (lv_at hl 0 rfl) ?_
  refine gX_9_lack C hX0_weigh_9_X0 hK hP mX0_weigh_9_4 dX0_weigh_19 ?_
  refine lv_aload_n C.1 C.2.1 dX0_weigh_22 rfl (lv_at hl 0 rfl) ?_
  refine gX_9_lacking C hX0_weigh_9_X0 hK hP mX0_weigh_9_5 dX0_weigh_23 ?_
  refine lv_iload_n C.1 C.2.1 dX0_weigh_26 rfl (lv_at hl 2 rfl) ?_
  refine lv_if_eq (tgt := 42) C.1 C.2.1 dX0_weigh_27 (by decide) (fun c27 => ?_) (fun c27 => ?_)
  · rw [if_pos c27] at h
    refine lv_aload_n C.1 C.2.1 dX0_weigh_42 rfl (lv_at hl 0 rfl) ?_
    refine gX_9_readings C hX0_weigh_9_X0 hK hP mX0_weigh_9_1 dX0_weigh_43 ?_
    refine gX_7_upper C hX0_weigh_9_X7 hK hP mX0_weigh_9_6 dX0_weigh_46 ?_
    refine lv_iload_n C.1 C.2.1 dX0_weigh_49 rfl (lv_at hl 1 rfl) ?_
    obtain ⟨hg2, h⟩ := gd_some h
    refine lX_39 C hK hP hg2 dX0_weigh_50 ?_
    refine lv_ineg C.1 C.2.1 dX0_weigh_51 ?_
    exact wGX0_weigh_9_52 C hK hJ _ _ _ _ _ _ _ _ h hP hS hl
  · rw [if_neg c27] at h
    refine lv_aload_n C.1 C.2.1 dX0_weigh_30 rfl (lv_at hl 0 rfl) ?_
    refine gX_9_readings C hX0_weigh_9_X0 hK hP mX0_weigh_9_1 dX0_weigh_31 ?_
    refine gX_7_lower C hX0_weigh_9_X7 hK hP mX0_weigh_9_3 dX0_weigh_34 ?_
    refine lv_iload_n C.1 C.2.1 dX0_weigh_37 rfl (lv_at hl 1 rfl) ?_
    obtain ⟨hg25, h⟩ := gd_some h
    refine lX_38 C hK hP hg25 dX0_weigh_38 ?_
    refine lv_goto (tgt := 52) C.1 C.2.1 dX0_weigh_39 (by decide) ?_
    exact wGX0_weigh_9_52 C hK hJ _ _ _ _ _ _ _ _ h hP hS hl
set_option maxHeartbeats 4000000 in
set_option maxRecDepth 100000 in
theorem wX0_weigh_9 {p : Program} {l : Launch} {e : Env} {s : State} {m : MethodId} {args : Array Value} {below : List Frame} {meth : Method} {c : Code} {D : va_G} {cy : Nat → ClassId} {ad st : Nat → Nat} (C : Cx RX0 cX0_weigh 8 none wsX0_weigh p s m args meth c) (hK : Ky D [(cy 0, .int), (cy 1, .long), (cy 2, .boolean), (cy 3, .byte), (cy 4, .object "HissHorn$Text")] st s) (hJ : JX ad st) (x1 : Int32) {u : SX} {r : Int32} {u' : SX} {H : Heap} {locs : List Loc} {ls : Array Slot} (h : fX0_weigh_9 x1 u = some (r, u')) (hP : va_P D vwCl (VX cy ad st u) H) (hS : va_S (Ax (AX ad) s.heap.size) s.heap H locs) (hl : lv_has ls 8 [(0, .ref (ad 9)), (1, .int x1)]) : W p l e rmX0_weigh_9 s m args below meth c H locs 0 0 (MQ below (Qv D (VX cy ad st) (AX ad) s.heap.size r u') args s 0 0 (Ax (AX ad) s.heap.size)) (F0 m 0 ls []) := by
  unfold fX0_weigh_9 at h
  refine lv_aload_n C.1 C.2.1 dX0_weigh_0 rfl (lv_at hl 0 rfl) ?_
  refine gX_9_readings C hX0_weigh_9_X0 hK hP mX0_weigh_9_1 dX0_weigh_1 ?_
  refine gX_7_lower C hX0_weigh_9_X7 hK hP mX0_weigh_9_3 dX0_weigh_4 ?_
  refine lv_iload_n C.1 C.2.1 dX0_weigh_7 rfl (lv_at hl 1 rfl) ?_
  obtain ⟨hg1, h⟩ := gd_some h
  refine lX_38 C hK hP hg1 dX0_weigh_8 ?_
  refine lv_if_le (tgt := 16) C.1 C.2.1 dX0_weigh_9 (by decide) (fun c9 => ?_) (fun c9 => ?_)
  · rw [if_pos c9] at h
    refine lv_iconst (v := 0) C.1 C.2.1 dX0_weigh_16 (by decide) ?_
    exact wGX0_weigh_9_17 C hK hJ _ _ _ _ _ _ h hP hS hl
  · rw [if_neg c9] at h
    refine lv_iconst (v := 1) C.1 C.2.1 dX0_weigh_12 (by decide) ?_
    refine lv_goto (tgt := 17) C.1 C.2.1 dX0_weigh_13 (by decide) ?_
    exact wGX0_weigh_9_17 C hK hJ _ _ _ _ _ _ h hP hS hl
theorem metX0_weigh_9 (l : Launch) (D : va_G) (cy : Nat → ClassId) (ad st : Nat → Nat) (hJ : JX ad st) (sz : Nat) (x1 : Int32) {u : SX} {r : Int32} {u' : SX} (h : fX0_weigh_9 x1 u = some (r, u')) : Met l yX0_weigh wsX0_weigh rmX0_weigh_9 (va_Pc [.ref (ad 9), .int x1] (Px D [(cy 0, .int), (cy 1, .long), (cy 2, .boolean), (cy 3, .byte), (cy 4, .object "HissHorn$Text")] st (VX cy ad st) sz u)) (Qv D (VX cy ad st) (AX ad) sz r u') 0 0 (Ax (AX ad) sz) := by
  refine Met.ofW (cc := cX0_weigh) (maxL := 8) (ret := none) (by decide) rfl ?_
  intro p e s m args below meth c s₁ B hml hv
  obtain ⟨rfl, hsz, hP, hK⟩ := hv
  subst hsz
  have C : Cx RX0 cX0_weigh 8 none wsX0_weigh p s m _ meth c := ⟨B.exec, B.bytes, hml, B.returns, findClass_of_methodNamed B.named, atoms_spec (ws := wsX0_weigh) B.pre, B.notSynchronized⟩
  have hl := lv_entry ([.ref (ad 9), .int x1]) (n := 8) (Nat.le_of_ble_eq_true rfl)
  rw [lg_entry_eq]
  exact wX0_weigh_9 C hK hJ x1 h hP va_S.rf hl

theorem zdX0_covers_93 : (and (and (and (and (and (zk cX0_covers 93 (.iinc 5 1) 3) (zk cX0_covers 96 (.goto (-41)) 3)) (and (zk cX0_covers 55 (.iload 5) 2) (zk cX0_covers 57 (.aload_n 0) 1))) (and (and (zk cX0_covers 58 (.getfield 22) 3) (zk cX0_covers 61 (.getfield 81) 3)) (and (zk cX0_covers 64 (.if_icmp .ge 35) 3) (zk cX0_covers 67 (.iload_n 1) 1)))) (and (and (and (zk cX0_covers 68 (.iload 5) 2) (zk cX0_covers 70 (.ishr) 1)) (and (zk cX0_covers 71 (.iconst 1) 1) (zk cX0_covers 72 (.iand) 1))) (and (and (zk cX0_covers 73 (.ifCond .eq 20) 3) (zk cX0_covers 76 (.iload 4) 2)) (and (zk cX0_covers 78 (.aload_n 0) 1) (zk cX0_covers 79 (.getfield 15) 3))))) (and (and (and (and (zk cX0_covers 82 (.iload_n 3) 1) (zk cX0_covers 83 (.bipush 12) 2)) (and (zk cX0_covers 85 (.imul) 1) (zk cX0_covers 86 (.iload 5) 2))) (and (and (zk cX0_covers 88 (.iadd) 1) (zk cX0_covers 89 (.iaload) 1)) (and (zk cX0_covers 90 (.isub) 1) (zk cX0_covers 91 (.istore 4) 2)))) (and (and (and (zk cX0_covers 99 (.iload 4) 2) (zk cX0_covers 101 (.ifCond .le 10) 3)) (and (zk cX0_covers 111 (.iinc 2 1) 3) (zk cX0_covers 114 (.goto (-112)) 3))) (and (and (zk cX0_covers 104 (.aload_n 0) 1) (zk cX0_covers 105 (.iload_n 3) 1)) (and (zk cX0_covers 106 (.putfield 74) 3) (zk cX0_covers 109 (.iconst 0) 1)))))) = true := by decide +kernel
theorem dX0_covers_93 : decode cX0_covers 93 = .ok (.iinc 5 1, 3) := zk_of (zk_l (zk_l (zk_l (zk_l (zk_l zdX0_covers_93)))))
theorem dX0_covers_96 : decode cX0_covers 96 = .ok (.goto (-41), 3) := zk_of (zk_r (zk_l (zk_l (zk_l (zk_l zdX0_covers_93)))))
theorem dX0_covers_55 : decode cX0_covers 55 = .ok (.iload 5, 2) := zk_of (zk_l (zk_r (zk_l (zk_l (zk_l zdX0_covers_93)))))
theorem dX0_covers_57 : decode cX0_covers 57 = .ok (.aload_n 0, 1) := zk_of (zk_r (zk_r (zk_l (zk_l (zk_l zdX0_covers_93)))))
theorem dX0_covers_58 : decode cX0_covers 58 = .ok (.getfield 22, 3) := zk_of (zk_l (zk_l (zk_r (zk_l (zk_l zdX0_covers_93)))))
theorem dX0_covers_61 : decode cX0_covers 61 = .ok (.getfield 81, 3) := zk_of (zk_r (zk_l (zk_r (zk_l (zk_l zdX0_covers_93)))))
theorem dX0_covers_64 : decode cX0_covers 64 = .ok (.if_icmp .ge 35, 3) := zk_of (zk_l (zk_r (zk_r (zk_l (zk_l zdX0_covers_93)))))
theorem dX0_covers_67 : decode cX0_covers 67 = .ok (.iload_n 1, 1) := zk_of (zk_r (zk_r (zk_r (zk_l (zk_l zdX0_covers_93)))))
theorem dX0_covers_68 : decode cX0_covers 68 = .ok (.iload 5, 2) := zk_of (zk_l (zk_l (zk_l (zk_r (zk_l zdX0_covers_93)))))
theorem dX0_covers_70 : decode cX0_covers 70 = .ok (.ishr, 1) := zk_of (zk_r (zk_l (zk_l (zk_r (zk_l zdX0_covers_93)))))
theorem dX0_covers_71 : decode cX0_covers 71 = .ok (.iconst 1, 1) := zk_of (zk_l (zk_r (zk_l (zk_r (zk_l zdX0_covers_93)))))
theorem dX0_covers_72 : decode cX0_covers 72 = .ok (.iand, 1) := zk_of (zk_r (zk_r (zk_l (zk_r (zk_l zdX0_covers_93)))))
theorem dX0_covers_73 : decode cX0_covers 73 = .ok (.ifCond .eq 20, 3) := zk_of (zk_l (zk_l (zk_r (zk_r (zk_l zdX0_covers_93)))))
theorem dX0_covers_76 : decode cX0_covers 76 = .ok (.iload 4, 2) := zk_of (zk_r (zk_l (zk_r (zk_r (zk_l zdX0_covers_93)))))
theorem dX0_covers_78 : decode cX0_covers 78 = .ok (.aload_n 0, 1) := zk_of (zk_l (zk_r (zk_r (zk_r (zk_l zdX0_covers_93)))))
theorem dX0_covers_79 : decode cX0_covers 79 = .ok (.getfield 15, 3) := zk_of (zk_r (zk_r (zk_r (zk_r (zk_l zdX0_covers_93)))))
theorem dX0_covers_82 : decode cX0_covers 82 = .ok (.iload_n 3, 1) := zk_of (zk_l (zk_l (zk_l (zk_l (zk_r zdX0_covers_93)))))
theorem dX0_covers_83 : decode cX0_covers 83 = .ok (.bipush 12, 2) := zk_of (zk_r (zk_l (zk_l (zk_l (zk_r zdX0_covers_93)))))
theorem dX0_covers_85 : decode cX0_covers 85 = .ok (.imul, 1) := zk_of (zk_l (zk_r (zk_l (zk_l (zk_r zdX0_covers_93)))))
theorem dX0_covers_86 : decode cX0_covers 86 = .ok (.iload 5, 2) := zk_of (zk_r (zk_r (zk_l (zk_l (zk_r zdX0_covers_93)))))
theorem dX0_covers_88 : decode cX0_covers 88 = .ok (.iadd, 1) := zk_of (zk_l (zk_l (zk_r (zk_l (zk_r zdX0_covers_93)))))
theorem dX0_covers_89 : decode cX0_covers 89 = .ok (.iaload, 1) := zk_of (zk_r (zk_l (zk_r (zk_l (zk_r zdX0_covers_93)))))
theorem dX0_covers_90 : decode cX0_covers 90 = .ok (.isub, 1) := zk_of (zk_l (zk_r (zk_r (zk_l (zk_r zdX0_covers_93)))))
theorem dX0_covers_91 : decode cX0_covers 91 = .ok (.istore 4, 2) := zk_of (zk_r (zk_r (zk_r (zk_l (zk_r zdX0_covers_93)))))
theorem dX0_covers_99 : decode cX0_covers 99 = .ok (.iload 4, 2) := zk_of (zk_l (zk_l (zk_l (zk_r (zk_r zdX0_covers_93)))))
theorem dX0_covers_101 : decode cX0_covers 101 = .ok (.ifCond .le 10, 3) := zk_of (zk_r (zk_l (zk_l (zk_r (zk_r zdX0_covers_93)))))
theorem dX0_covers_111 : decode cX0_covers 111 = .ok (.iinc 2 1, 3) := zk_of (zk_l (zk_r (zk_l (zk_r (zk_r zdX0_covers_93)))))
theorem dX0_covers_114 : decode cX0_covers 114 = .ok (.goto (-112), 3) := zk_of (zk_r (zk_r (zk_l (zk_r (zk_r zdX0_covers_93)))))
theorem dX0_covers_104 : decode cX0_covers 104 = .ok (.aload_n 0, 1) := zk_of (zk_l (zk_l (zk_r (zk_r (zk_r zdX0_covers_93)))))
theorem dX0_covers_105 : decode cX0_covers 105 = .ok (.iload_n 3, 1) := zk_of (zk_r (zk_l (zk_r (zk_r (zk_r zdX0_covers_93)))))
theorem dX0_covers_106 : decode cX0_covers 106 = .ok (.putfield 74, 3) := zk_of (zk_l (zk_r (zk_r (zk_r (zk_r zdX0_covers_93)))))
theorem dX0_covers_109 : decode cX0_covers 109 = .ok (.iconst 0, 1) := zk_of (zk_r (zk_r (zk_r (zk_r (zk_r zdX0_covers_93)))))
theorem zdX0_covers_110 : (and (and (and (and (and (zk cX0_covers 110 (.ireturn) 1) (zk cX0_covers 43 (.istore_n 3) 1)) (and (zk cX0_covers 44 (.aload_n 0) 1) (zk cX0_covers 45 (.getfield 9) 3))) (and (and (zk cX0_covers 48 (.iload_n 3) 1) (zk cX0_covers 49 (.iaload) 1)) (and (zk cX0_covers 50 (.istore 4) 2) (zk cX0_covers 52 (.iconst 0) 1)))) (and (and (and (zk cX0_covers 53 (.istore 5) 2) (zk cX0_covers 2 (.iload_n 2) 1)) (and (zk cX0_covers 3 (.aload_n 0) 1) (zk cX0_covers 4 (.getfield 71) 3))) (and (and (zk cX0_covers 7 (.if_icmp .ge 110) 3) (zk cX0_covers 117 (.iconst 1) 1)) (and (zk cX0_covers 118 (.ireturn) 1) (zk cX0_covers 10 (.aload_n 0) 1))))) (and (and (and (and (zk cX0_covers 11 (.getfield 74) 3) (zk cX0_covers 14 (.iload_n 2) 1)) (and (zk cX0_covers 15 (.iadd) 1) (zk cX0_covers 16 (.aload_n 0) 1))) (and (and (zk cX0_covers 17 (.getfield 71) 3) (zk cX0_covers 20 (.if_icmp .ge 12) 3)) (and (zk cX0_covers 32 (.aload_n 0) 1) (zk cX0_covers 33 (.getfield 74) 3)))) (and (and (and (zk cX0_covers 36 (.iload_n 2) 1) (zk cX0_covers 37 (.iadd) 1)) (and (zk cX0_covers 38 (.aload_n 0) 1) (zk cX0_covers 39 (.getfield 71) 3))) (and (and (zk cX0_covers 42 (.isub) 1) (zk cX0_covers 23 (.aload_n 0) 1)) (and (zk cX0_covers 24 (.getfield 74) 3) (zk cX0_covers 27 (.iload_n 2) 1)))))) = true := by decide +kernel
theorem dX0_covers_110 : decode cX0_covers 110 = .ok (.ireturn, 1) := zk_of (zk_l (zk_l (zk_l (zk_l (zk_l zdX0_covers_110)))))
theorem dX0_covers_43 : decode cX0_covers 43 = .ok (.istore_n 3, 1) := zk_of (zk_r (zk_l (zk_l (zk_l (zk_l zdX0_covers_110)))))
theorem dX0_covers_44 : decode cX0_covers 44 = .ok (.aload_n 0, 1) := zk_of (zk_l (zk_r (zk_l (zk_l (zk_l zdX0_covers_110)))))
theorem dX0_covers_45 : decode cX0_covers 45 = .ok (.getfield 9, 3) := zk_of (zk_r (zk_r (zk_l (zk_l (zk_l zdX0_covers_110)))))
theorem dX0_covers_48 : decode cX0_covers 48 = .ok (.iload_n 3, 1) := zk_of (zk_l (zk_l (zk_r (zk_l (zk_l zdX0_covers_110)))))
theorem dX0_covers_49 : decode cX0_covers 49 = .ok (.iaload, 1) := zk_of (zk_r (zk_l (zk_r (zk_l (zk_l zdX0_covers_110)))))
theorem dX0_covers_50 : decode cX0_covers 50 = .ok (.istore 4, 2) := zk_of (zk_l (zk_r (zk_r (zk_l (zk_l zdX0_covers_110)))))
theorem dX0_covers_52 : decode cX0_covers 52 = .ok (.iconst 0, 1) := zk_of (zk_r (zk_r (zk_r (zk_l (zk_l zdX0_covers_110)))))
theorem dX0_covers_53 : decode cX0_covers 53 = .ok (.istore 5, 2) := zk_of (zk_l (zk_l (zk_l (zk_r (zk_l zdX0_covers_110)))))
theorem dX0_covers_2 : decode cX0_covers 2 = .ok (.iload_n 2, 1) := zk_of (zk_r (zk_l (zk_l (zk_r (zk_l zdX0_covers_110)))))
theorem dX0_covers_3 : decode cX0_covers 3 = .ok (.aload_n 0, 1) := zk_of (zk_l (zk_r (zk_l (zk_r (zk_l zdX0_covers_110)))))
theorem dX0_covers_4 : decode cX0_covers 4 = .ok (.getfield 71, 3) := zk_of (zk_r (zk_r (zk_l (zk_r (zk_l zdX0_covers_110)))))
theorem dX0_covers_7 : decode cX0_covers 7 = .ok (.if_icmp .ge 110, 3) := zk_of (zk_l (zk_l (zk_r (zk_r (zk_l zdX0_covers_110)))))
theorem dX0_covers_117 : decode cX0_covers 117 = .ok (.iconst 1, 1) := zk_of (zk_r (zk_l (zk_r (zk_r (zk_l zdX0_covers_110)))))
theorem dX0_covers_118 : decode cX0_covers 118 = .ok (.ireturn, 1) := zk_of (zk_l (zk_r (zk_r (zk_r (zk_l zdX0_covers_110)))))
theorem dX0_covers_10 : decode cX0_covers 10 = .ok (.aload_n 0, 1) := zk_of (zk_r (zk_r (zk_r (zk_r (zk_l zdX0_covers_110)))))
theorem dX0_covers_11 : decode cX0_covers 11 = .ok (.getfield 74, 3) := zk_of (zk_l (zk_l (zk_l (zk_l (zk_r zdX0_covers_110)))))
theorem dX0_covers_14 : decode cX0_covers 14 = .ok (.iload_n 2, 1) := zk_of (zk_r (zk_l (zk_l (zk_l (zk_r zdX0_covers_110)))))
theorem dX0_covers_15 : decode cX0_covers 15 = .ok (.iadd, 1) := zk_of (zk_l (zk_r (zk_l (zk_l (zk_r zdX0_covers_110)))))
theorem dX0_covers_16 : decode cX0_covers 16 = .ok (.aload_n 0, 1) := zk_of (zk_r (zk_r (zk_l (zk_l (zk_r zdX0_covers_110)))))
theorem dX0_covers_17 : decode cX0_covers 17 = .ok (.getfield 71, 3) := zk_of (zk_l (zk_l (zk_r (zk_l (zk_r zdX0_covers_110)))))
theorem dX0_covers_20 : decode cX0_covers 20 = .ok (.if_icmp .ge 12, 3) := zk_of (zk_r (zk_l (zk_r (zk_l (zk_r zdX0_covers_110)))))
theorem dX0_covers_32 : decode cX0_covers 32 = .ok (.aload_n 0, 1) := zk_of (zk_l (zk_r (zk_r (zk_l (zk_r zdX0_covers_110)))))
theorem dX0_covers_33 : decode cX0_covers 33 = .ok (.getfield 74, 3) := zk_of (zk_r (zk_r (zk_r (zk_l (zk_r zdX0_covers_110)))))
theorem dX0_covers_36 : decode cX0_covers 36 = .ok (.iload_n 2, 1) := zk_of (zk_l (zk_l (zk_l (zk_r (zk_r zdX0_covers_110)))))
theorem dX0_covers_37 : decode cX0_covers 37 = .ok (.iadd, 1) := zk_of (zk_r (zk_l (zk_l (zk_r (zk_r zdX0_covers_110)))))
theorem dX0_covers_38 : decode cX0_covers 38 = .ok (.aload_n 0, 1) := zk_of (zk_l (zk_r (zk_l (zk_r (zk_r zdX0_covers_110)))))
theorem dX0_covers_39 : decode cX0_covers 39 = .ok (.getfield 71, 3) := zk_of (zk_r (zk_r (zk_l (zk_r (zk_r zdX0_covers_110)))))
theorem dX0_covers_42 : decode cX0_covers 42 = .ok (.isub, 1) := zk_of (zk_l (zk_l (zk_r (zk_r (zk_r zdX0_covers_110)))))
theorem dX0_covers_23 : decode cX0_covers 23 = .ok (.aload_n 0, 1) := zk_of (zk_r (zk_l (zk_r (zk_r (zk_r zdX0_covers_110)))))
theorem dX0_covers_24 : decode cX0_covers 24 = .ok (.getfield 74, 3) := zk_of (zk_l (zk_r (zk_r (zk_r (zk_r zdX0_covers_110)))))
theorem dX0_covers_27 : decode cX0_covers 27 = .ok (.iload_n 2, 1) := zk_of (zk_r (zk_r (zk_r (zk_r (zk_r zdX0_covers_110)))))
theorem zdX0_covers_28 : (and (and (zk cX0_covers 28 (.iadd) 1) (zk cX0_covers 29 (.goto 14) 3)) (and (zk cX0_covers 0 (.iconst 0) 1) (zk cX0_covers 1 (.istore_n 2) 1))) = true := by decide +kernel
theorem dX0_covers_28 : decode cX0_covers 28 = .ok (.iadd, 1) := zk_of (zk_l (zk_l zdX0_covers_28))
theorem dX0_covers_29 : decode cX0_covers 29 = .ok (.goto 14, 3) := zk_of (zk_r (zk_l zdX0_covers_28))
theorem dX0_covers_0 : decode cX0_covers 0 = .ok (.iconst 0, 1) := zk_of (zk_l (zk_r zdX0_covers_28))
theorem dX0_covers_1 : decode cX0_covers 1 = .ok (.istore_n 2, 1) := zk_of (zk_r (zk_r zdX0_covers_28))
/-- HissHorn$Blame.covers(I)Z of cell 9 -/
def rmX0_covers_9 : Room := { frames := 0, cells := 0, slots := 0, locals := 0 }
theorem hX0_covers_9_X0 : ∀ w ∈ u_ws RX0 TX0 9, w ∈ wsX0_covers := fun w h => (List.mem_cons_of_mem _ (List.mem_append_left _ (List.mem_append_right _ h)))
theorem mX0_covers_9_1 : Cond.fieldLink RX0 71 "HissHorn$Blame" "lacking" "I" ∈ wsX0_covers := (List.mem_cons_of_mem _ (List.mem_append_left _ (List.mem_append_left _ (List.mem_of_getElem? (i := 0) rfl))))
theorem mX0_covers_9_2 : Cond.fieldLink RX0 74 "HissHorn$Blame" "lastLacking" "I" ∈ wsX0_covers := (List.mem_cons_of_mem _ (List.mem_append_left _ (List.mem_append_left _ (List.mem_of_getElem? (i := 1) rfl))))
theorem mX0_covers_9_3 : Cond.fieldLink RX0 9 "HissHorn$Blame" "lack" "[I" ∈ wsX0_covers := (List.mem_cons_of_mem _ (List.mem_append_left _ (List.mem_append_left _ (List.mem_of_getElem? (i := 2) rfl))))
theorem mX0_covers_9_4 : Cond.fieldLink RX0 22 "HissHorn$Blame" "parts" "LHissHorn$Parts;" ∈ wsX0_covers := (List.mem_cons_of_mem _ (List.mem_append_left _ (List.mem_append_left _ (List.mem_of_getElem? (i := 3) rfl))))
theorem hX0_covers_9_X6 : ∀ w ∈ u_ws RX6 TX6 17, w ∈ wsX0_covers := fun w h => (List.mem_cons_of_mem _ (List.mem_append_right _ h))
theorem mX0_covers_9_6 : Cond.fieldLink RX0 81 "HissHorn$Parts" "known" "I" ∈ wsX0_covers := (List.mem_cons_of_mem _ (List.mem_append_left _ (List.mem_append_left _ (List.mem_of_getElem? (i := 4) rfl))))
def GX0_covers_9_93 (k55 : Int32 → Int32 → Int32 → Int32 → Int32 → SX → Option (Int32 × SX)) (z1 : Int32) (z2 : Int32) (z3 : Int32) (z4 : Int32) (z5 : Int32) (u : SX) : Option (Int32 × SX) := (k55 z1 z2 z3 z4 (z5 + 1) u)
theorem mX0_covers_9_7 : Cond.fieldLink RX0 15 "HissHorn$Blame" "gain" "[I" ∈ wsX0_covers := (List.mem_cons_of_mem _ (List.mem_append_left _ (List.mem_append_left _ (List.mem_of_getElem? (i := 5) rfl))))
def LX0_covers_9_55 (k99 : Int32 → Int32 → Int32 → Int32 → SX → Option (Int32 × SX)) : Nat → Int32 → Int32 → Int32 → Int32 → Int32 → SX → Option (Int32 × SX)
  | 0, _, _, _, _, _, _ => none
  | n + 1, z1, z2, z3, z4, z5, u => (if (u.1 10) ≤ z5 then (k99 z1 z2 z3 z4 u) else (if ((z1 >>> (z5 &&& 31)) &&& 1) = 0 then (GX0_covers_9_93 (LX0_covers_9_55 k99 n) z1 z2 z3 z4 z5 u) else (gd (inb ((z3 * 12) + z5) 960) (lt (z4 - (u.2.1 47 ((z3 * 12) + z5).toNatClampNeg)) fun v6 => (GX0_covers_9_93 (LX0_covers_9_55 k99 n) z1 z2 z3 v6 z5 u)))))
def GX0_covers_9_99 (k2 : Int32 → Int32 → SX → Option (Int32 × SX)) (z1 : Int32) (z2 : Int32) (z3 : Int32) (z4 : Int32) (u : SX) : Option (Int32 × SX) := (if z4 ≤ 0 then (k2 z1 (z2 + 1) u) else (lt (sI u 27 z3) fun u8 => (gd (isB 0) (some (0, u8)))))
def GX0_covers_9_43 (k2 : Int32 → Int32 → SX → Option (Int32 × SX)) (z1 : Int32) (z2 : Int32) (y0 : Int32) (u : SX) : Option (Int32 × SX) := (gd (inb y0 80) (lt (u.2.1 46 y0.toNatClampNeg) fun v3 => (LX0_covers_9_55 (GX0_covers_9_99 k2) 5000 z1 z2 y0 v3 0 u)))
def LX0_covers_9_2  : Nat → Int32 → Int32 → SX → Option (Int32 × SX)
  | 0, _, _, _ => none
  | n + 1, z1, z2, u => (if (u.1 26) ≤ z2 then (gd (isB 1) (some (1, u))) else (if (u.1 26) ≤ ((u.1 27) + z2) then (GX0_covers_9_43 (LX0_covers_9_2 n) z1 z2 (((u.1 27) + z2) - (u.1 26)) u) else (GX0_covers_9_43 (LX0_covers_9_2 n) z1 z2 ((u.1 27) + z2) u)))
def fX0_covers_9 (x1 : Int32) (u : SX) : Option (Int32 × SX) := (LX0_covers_9_2  5000 x1 0 u)
set_option maxHeartbeats 4000000 in
set_option maxRecDepth 100000 in
theorem wGX0_covers_9_93 {p : Program} {l : Launch} {e : Env} {s : State} {m : MethodId} {args : Array Value} {below : List Frame} {meth : Method} {c : Code} {D : va_G} {cy : Nat → ClassId} {ad st : Nat → Nat} (C : Cx RX0 cX0_covers 6 (some .boolean) wsX0_covers p s m args meth c) (hK : Ky D [(cy 0, .int), (cy 1, .long), (cy 2, .boolean), (cy 3, .byte), (cy 4, .object "HissHorn$Text")] st s) (hJ : JX ad st) {r : Int32} {u' : SX} {k55 : Int32 → Int32 → Int32 → Int32 → Int32 → SX → Option (Int32 × SX)} (hk55 : ∀ (z1 : Int32) (z2 : Int32) (z3 : Int32) (z4 : Int32) (z5 : Int32) (u : SX) (H : Heap) (locs : List Loc) (ls : Array Slot), k55 z1 z2 z3 z4 z5 u = some (r, u') → va_P D vwCl (VX cy ad st u) H → va_S (Ax (AX ad) s.heap.size) s.heap H locs → lv_has ls 6 [(0, .ref (ad 9)), (1, .int z1), (2, .int z2), (3, .int z3), (4, .int z4), (5, .int z5)] → W p l e rmX0_covers_9 s m args below meth c H locs 0 0 (MQ below (Qi D (VX cy ad st) (AX ad) s.heap.size r u') args s 0 0 (Ax (AX ad) s.heap.size)) (F0 m 55 ls [])) (z1 : Int32) (z2 : Int32) (z3 : Int32) (z4 : Int32) (z5 : Int32) (u : SX) (H : Heap) (locs : List Loc) (ls : Array Slot) (h : GX0_covers_9_93 k55 z1 z2 z3 z4 z5 u = some (r, u')) (hP : va_P D vwCl (VX cy ad st u) H) (hS : va_S (Ax (AX ad) s.heap.size) s.heap H locs) (hl : lv_has ls 6 [(0, .ref (ad 9)), (1, .int z1), (2, .int z2), (3, .int z3), (4, .int z4), (5, .int z5)]) : W p l e rmX0_covers_9 s m args below meth c H locs 0 0 (MQ below (Qi D (VX cy ad st) (AX ad) s.heap.size r u') args s 0 0 (Ax (AX ad) s.heap.size)) (F0 m 93 ls []) := by
  unfold GX0_covers_9_93 at h
  refine lv_iinc (v := z5 + 1) (lv' := [(5, .int (z5 + 1)), (0, .ref (ad 9)), (1, .int z1), (2, .int z2), (3, .int z3), (4, .int z4)]) C.1 C.2.1 dX0_covers_93 hl (k := 5) rfl rfl (by decide) rfl (fun ls hl => ?_)
  replace hl := lv_sub (l' := [(0, .ref (ad 9)), (1, .int z1), (2, .int z2), (3, .int z3), (4, .int z4), (5, .int (z5 + 1))]) hl [1, 2, 3, 4, 5, 0] rfl
  refine lv_goto (tgt := 55) C.1 C.2.1 dX0_covers_96 (by decide) ?_
  exact hk55 _ _ _ _ _ _ _ _ _ h hP hS hl
set_option maxHeartbeats 4000000 in
set_option maxRecDepth 100000 in
theorem wLX0_covers_9_55 {p : Program} {l : Launch} {e : Env} {s : State} {m : MethodId} {args : Array Value} {below : List Frame} {meth : Method} {c : Code} {D : va_G} {cy : Nat → ClassId} {ad st : Nat → Nat} (C : Cx RX0 cX0_covers 6 (some .boolean) wsX0_covers p s m args meth c) (hK : Ky D [(cy 0, .int), (cy 1, .long), (cy 2, .boolean), (cy 3, .byte), (cy 4, .object "HissHorn$Text")] st s) (hJ : JX ad st) {r : Int32} {u' : SX} {k99 : Int32 → Int32 → Int32 → Int32 → SX → Option (Int32 × SX)} (hk99 : ∀ (z1 : Int32) (z2 : Int32) (z3 : Int32) (z4 : Int32) (u : SX) (H : Heap) (locs : List Loc) (ls : Array Slot), k99 z1 z2 z3 z4 u = some (r, u') → va_P D vwCl (VX cy ad st u) H → va_S (Ax (AX ad) s.heap.size) s.heap H locs → lv_has ls 6 [(0, .ref (ad 9)), (1, .int z1), (2, .int z2), (3, .int z3), (4, .int z4)] → W p l e rmX0_covers_9 s m args below meth c H locs 0 0 (MQ below (Qi D (VX cy ad st) (AX ad) s.heap.size r u') args s 0 0 (Ax (AX ad) s.heap.size)) (F0 m 99 ls [])) : ∀ (n : Nat) (z1 : Int32) (z2 : Int32) (z3 : Int32) (z4 : Int32) (z5 : Int32) (u : SX) (H : Heap) (locs : List Loc) (ls : Array Slot), LX0_covers_9_55 k99 n z1 z2 z3 z4 z5 u = some (r, u') → va_P D vwCl (VX cy ad st u) H → va_S (Ax (AX ad) s.heap.size) s.heap H locs → lv_has ls 6 [(0, .ref (ad 9)), (1, .int z1), (2, .int z2), (3, .int z3), (4, .int z4), (5, .int z5)] → W p l e rmX0_covers_9 s m args below meth c H locs 0 0 (MQ below (Qi D (VX cy ad st) (AX ad) s.heap.size r u') args s 0 0 (Ax (AX ad) s.heap.size)) (F0 m 55 ls []) := by
  intro n
  induction n with
  | zero =>
    intro z1 z2 z3 z4 z5 u H locs ls h
    exact absurd h (by intro q; cases q)
  | succ n ih =>
    intro z1 z2 z3 z4 z5 u H locs ls h hP hS hl
    rw [LX0_covers_9_55] at h
    refine lv_iload C.1 C.2.1 dX0_covers_55 (lv_at hl 5 rfl) ?_
    refine lv_aload_n C.1 C.2.1 dX0_covers_57 rfl (lv_at hl 0 rfl) ?_
    refine gX_9_parts C hX0_covers_9_X0 hK hP mX0_covers_9_4 dX0_covers_58 ?_
    refine gX_6_known C hX0_covers_9_X6 hK hP mX0_covers_9_6 dX0_covers_61 ?_
    refine lv_icmp_ge (tgt := 99) C.1 C.2.1 dX0_covers_64 (by decide) (fun c64 => ?_) (fun c64 => ?_)
    · rw [if_pos c64] at h
      exact hk99 _ _ _ _ _ _ _ _ h hP hS (lv_sub hl [0, 1, 2, 3, 4] rfl)
    · rw [if_neg c64] at h
      refine lv_iload_n C.1 C.2.1 dX0_covers_67 rfl (lv_at hl 1 rfl) ?_
      refine lv_iload C.1 C.2.1 dX0_covers_68 (lv_at hl 5 rfl) ?_
      refine lv_ishr C.1 C.2.1 dX0_covers_70 ?_
      refine lv_iconst (v := 1) C.1 C.2.1 dX0_covers_71 (by decide) ?_
      refine lv_iand C.1 C.2.1 dX0_covers_72 ?_
      refine lv_if_eq (tgt := 93) C.1 C.2.1 dX0_covers_73 (by decide) (fun c73 => ?_) (fun c73 => ?_)
      · rw [if_pos c73] at h
        exact wGX0_covers_9_93 C hK hJ ih _ _ _ _ _ _ _ _ _ h hP hS hl
      · rw [if_neg c73] at h
        refine lv_iload C.1 C.2.1 dX0_covers_76 (lv_at hl 4 rfl) ?_
        refine lv_aload_n C.1 C.2.1 dX0_covers_78 rfl (lv_at hl 0 rfl) ?_
        refine gX_9_gain C hX0_covers_9_X0 hK hP mX0_covers_9_7 dX0_covers_79 ?_
        refine lv_iload_n C.1 C.2.1 dX0_covers_82 rfl (lv_at hl 3 rfl) ?_
        refine lv_bipush (v := 12) C.1 C.2.1 dX0_covers_83 (by decide) ?_
        refine lv_imul C.1 C.2.1 dX0_covers_85 ?_
        refine lv_iload C.1 C.2.1 dX0_covers_86 (lv_at hl 5 rfl) ?_
        refine lv_iadd C.1 C.2.1 dX0_covers_88 ?_
        obtain ⟨hg5, h⟩ := gd_some h
        refine lX_47 C hK hP hg5 dX0_covers_89 ?_
        refine lv_isub C.1 C.2.1 dX0_covers_90 ?_
        refine lv_topi (fun v6 hv7 => ?_)
        replace h := lt_e hv7 h
        try dsimp only at h
        refine lv_istore (lv' := [(4, .int v6), (0, .ref (ad 9)), (1, .int z1), (2, .int z2), (3, .int z3), (5, .int z5)]) C.1 C.2.1 dX0_covers_91 hl (by decide) rfl (fun ls hl => ?_)
        replace hl := lv_sub (l' := [(0, .ref (ad 9)), (1, .int z1), (2, .int z2), (3, .int z3), (4, .int v6), (5, .int z5)]) hl [1, 2, 3, 4, 0, 5] rfl
        exact wGX0_covers_9_93 C hK hJ ih _ _ _ _ _ _ _ _ _ h hP hS hl
set_option maxHeartbeats 4000000 in
set_option maxRecDepth 100000 in
theorem wGX0_covers_9_99 {p : Program} {l : Launch} {e : Env} {s : State} {m : MethodId} {args : Array Value} {below : List Frame} {meth : Method} {c : Code} {D : va_G} {cy : Nat → ClassId} {ad st : Nat → Nat} (C : Cx RX0 cX0_covers 6 (some .boolean) wsX0_covers p s m args meth c) (hK : Ky D [(cy 0, .int), (cy 1, .long), (cy 2, .boolean), (cy 3, .byte), (cy 4, .object "HissHorn$Text")] st s) (hJ : JX ad st) {r : Int32} {u' : SX} {k2 : Int32 → Int32 → SX → Option (Int32 × SX)} (hk2 : ∀ (z1 : Int32) (z2 : Int32) (u : SX) (H : Heap) (locs : List Loc) (ls : Array Slot), k2 z1 z2 u = some (r, u') → va_P D vwCl (VX cy ad st u) H → va_S (Ax (AX ad) s.heap.size) s.heap H locs → lv_has ls 6 [(0, .ref (ad 9)), (1, .int z1), (2, .int z2)] → W p l e rmX0_covers_9 s m args below meth c H locs 0 0 (MQ below (Qi D (VX cy ad st) (AX ad) s.heap.size r u') args s 0 0 (Ax (AX ad) s.heap.size)) (F0 m 2 ls [])) (z1 : Int32) (z2 : Int32) (z3 : Int32) (z4 : Int32) (u : SX) (H : Heap) (locs : List Loc) (ls : Array Slot) (h : GX0_covers_9_99 k2 z1 z2 z3 z4 u = some (r, u')) (hP : va_P D vwCl (VX cy ad st u) H) (hS : va_S (Ax (AX ad) s.heap.size) s.heap H locs) (hl : lv_has ls 6 [(0, .ref (ad 9)), (1, .int z1), (2, .int z2), (3, .int z3), (4, .int z4)]) : W p l e rmX0_covers_9 s m args below meth c H locs 0 0 (MQ below (Qi D (VX cy ad st) (AX ad) s.heap.size r u') args s 0 0 (Ax (AX ad) s.heap.size)) (F0 m 99 ls []) := by
  unfold GX0_covers_9_99 at h
  refine lv_iload C.1 C.2.1 dX0_covers_99 (lv_at hl 4 rfl) ?_
  refine lv_if_le (tgt := 111) C.1 C.2.1 dX0_covers_101 (by decide) (fun c101 => ?_) (fun c101 => ?_)
  · rw [if_pos c101] at h
    refine lv_iinc (v := z2 + 1) (lv' := [(2, .int (z2 + 1)), (0, .ref (ad 9)), (1, .int z1), (3, .int z3), (4, .int z4)]) C.1 C.2.1 dX0_covers_111 hl (k := 2) rfl rfl (by decide) rfl (fun ls hl => ?_)
    replace hl := lv_sub (l' := [(0, .ref (ad 9)), (1, .int z1), (2, .int (z2 + 1)), (3, .int z3), (4, .int z4)]) hl [1, 2, 0, 3, 4] rfl
    refine lv_goto (tgt := 2) C.1 C.2.1 dX0_covers_114 (by decide) ?_
    exact hk2 _ _ _ _ _ _ h hP hS (lv_sub hl [0, 1, 2] rfl)
  · rw [if_neg c101] at h
    refine lv_aload_n C.1 C.2.1 dX0_covers_104 rfl (lv_at hl 0 rfl) ?_
    refine lv_iload_n C.1 C.2.1 dX0_covers_105 rfl (lv_at hl 3 rfl) ?_
    refine pX_9_lastLacking C hX0_covers_9_X0 hK hP hJ hS mX0_covers_9_2 dX0_covers_106 (fun H locs hP hS => ?_)
    obtain ⟨u8, hu9, h⟩ := lt_some h
    rw [← hu9] at hP
    refine lv_iconst (v := 0) C.1 C.2.1 dX0_covers_109 (by decide) ?_
    obtain ⟨hg10, h⟩ := gd_some h
    cases h
    exact rt_z hg10 C hP hS dX0_covers_110
set_option maxHeartbeats 4000000 in
set_option maxRecDepth 100000 in
theorem wGX0_covers_9_43 {p : Program} {l : Launch} {e : Env} {s : State} {m : MethodId} {args : Array Value} {below : List Frame} {meth : Method} {c : Code} {D : va_G} {cy : Nat → ClassId} {ad st : Nat → Nat} (C : Cx RX0 cX0_covers 6 (some .boolean) wsX0_covers p s m args meth c) (hK : Ky D [(cy 0, .int), (cy 1, .long), (cy 2, .boolean), (cy 3, .byte), (cy 4, .object "HissHorn$Text")] st s) (hJ : JX ad st) {r : Int32} {u' : SX} {k2 : Int32 → Int32 → SX → Option (Int32 × SX)} (hk2 : ∀ (z1 : Int32) (z2 : Int32) (u : SX) (H : Heap) (locs : List Loc) (ls : Array Slot), k2 z1 z2 u = some (r, u') → va_P D vwCl (VX cy ad st u) H → va_S (Ax (AX ad) s.heap.size) s.heap H locs → lv_has ls 6 [(0, .ref (ad 9)), (1, .int z1), (2, .int z2)] → W p l e rmX0_covers_9 s m args below meth c H locs 0 0 (MQ below (Qi D (VX cy ad st) (AX ad) s.heap.size r u') args s 0 0 (Ax (AX ad) s.heap.size)) (F0 m 2 ls [])) (z1 : Int32) (z2 : Int32) (y0 : Int32) (u : SX) (H : Heap) (locs : List Loc) (ls : Array Slot) (h : GX0_covers_9_43 k2 z1 z2 y0 u = some (r, u')) (hP : va_P D vwCl (VX cy ad st u) H) (hS : va_S (Ax (AX ad) s.heap.size) s.heap H locs) (hl : lv_has ls 6 [(0, .ref (ad 9)), (1, .int z1), (2, .int z2)]) : W p l e rmX0_covers_9 s m args below meth c H locs 0 0 (MQ below (Qi D (VX cy ad st) (AX ad) s.heap.size r u') args s 0 0 (Ax (AX ad) s.heap.size)) (F0 m 43 ls [.int y0]) := by
  unfold GX0_covers_9_43 at h
  refine lv_istore_n (lv' := [(3, .int y0), (0, .ref (ad 9)), (1, .int z1), (2, .int z2)]) C.1 C.2.1 dX0_covers_43 rfl hl (by decide) rfl (fun ls hl => ?_)
  replace hl := lv_sub (l' := [(0, .ref (ad 9)), (1, .int z1), (2, .int z2), (3, .int y0)]) hl [1, 2, 3, 0] rfl
  refine lv_aload_n C.1 C.2.1 dX0_covers_44 rfl (lv_at hl 0 rfl) ?_
  refine gX_9_lack C hX0_covers_9_X0 hK hP mX0_covers_9_3 dX0_covers_45 ?_
  refine lv_iload_n C.1 C.2.1 dX0_covers_48 rfl (lv_at hl 3 rfl) ?_
  obtain ⟨hg2, h⟩ := gd_some h
  refine lX_46 C hK hP hg2 dX0_covers_49 ?_
  refine lv_topi (fun v3 hv4 => ?_)
  replace h := lt_e hv4 h
  try dsimp only at h
  refine lv_istore (lv' := [(4, .int v3), (0, .ref (ad 9)), (1, .int z1), (2, .int z2), (3, .int y0)]) C.1 C.2.1 dX0_covers_50 hl (by decide) rfl (fun ls hl => ?_)
  replace hl := lv_sub (l' := [(0, .ref (ad 9)), (1, .int z1), (2, .int z2), (3, .int y0), (4, .int v3)]) hl [1, 2, 3, 4, 0] rfl
  refine lv_iconst (v := 0) C.1 C.2.1 dX0_covers_52 (by decide) ?_
  refine lv_istore (lv' := [(5, .int 0), (0, .ref (ad 9)), (1, .int z1), (2, .int z2), (3, .int y0), (4, .int v3)]) C.1 C.2.1 dX0_covers_53 hl (by decide) rfl (fun ls hl => ?_)
  replace hl := lv_sub (l' := [(0, .ref (ad 9)), (1, .int z1), (2, .int z2), (3, .int y0), (4, .int v3), (5, .int 0)]) hl [1, 2, 3, 4, 5, 0] rfl
  exact wLX0_covers_9_55 C hK hJ (wGX0_covers_9_99 C hK hJ hk2) 5000 _ _ _ _ _ _ _ _ _ h hP hS hl
set_option maxHeartbeats 4000000 in
set_option maxRecDepth 100000 in
theorem wLX0_covers_9_2 {p : Program} {l : Launch} {e : Env} {s : State} {m : MethodId} {args : Array Value} {below : List Frame} {meth : Method} {c : Code} {D : va_G} {cy : Nat → ClassId} {ad st : Nat → Nat} (C : Cx RX0 cX0_covers 6 (some .boolean) wsX0_covers p s m args meth c) (hK : Ky D [(cy 0, .int), (cy 1, .long), (cy 2, .boolean), (cy 3, .byte), (cy 4, .object "HissHorn$Text")] st s) (hJ : JX ad st) {r : Int32} {u' : SX}   : ∀ (n : Nat) (z1 : Int32) (z2 : Int32) (u : SX) (H : Heap) (locs : List Loc) (ls : Array Slot), LX0_covers_9_2  n z1 z2 u = some (r, u') → va_P D vwCl (VX cy ad st u) H → va_S (Ax (AX ad) s.heap.size) s.heap H locs → lv_has ls 6 [(0, .ref (ad 9)), (1, .int z1), (2, .int z2)] → W p l e rmX0_covers_9 s m args below meth c H locs 0 0 (MQ below (Qi D (VX cy ad st) (AX ad) s.heap.size r u') args s 0 0 (Ax (AX ad) s.heap.size)) (F0 m 2 ls []) := by
  intro n
  induction n with
  | zero =>
    intro z1 z2 u H locs ls h
    exact absurd h (by intro q; cases q)
  | succ n ih =>
    intro z1 z2 u H locs ls h hP hS hl
    rw [LX0_covers_9_2] at h
    refine lv_iload_n C.1 C.2.1 dX0_covers_2 rfl (lv_at hl 2 rfl) ?_
    refine lv_aload_n C.1 C.2.1 dX0_covers_3 rfl (lv_at hl 0 rfl) ?_
    refine gX_9_lacking C hX0_covers_9_X0 hK hP mX0_covers_9_1 dX0_covers_4 ?_
    refine lv_icmp_ge (tgt := 117) C.1 C.2.1 dX0_covers_7 (by decide) (fun c7 => ?_) (fun c7 => ?_)
    · rw [if_pos c7] at h
      refine lv_iconst (v := 1) C.1 C.2.1 dX0_covers_117 (by decide) ?_
      obtain ⟨hg1, h⟩ := gd_some h
      cases h
      exact rt_z hg1 C hP hS dX0_covers_118
    · rw [if_neg c7] at h
      refine lv_aload_n C.1 C.2.1 dX0_covers_10 rfl (lv_at hl 0 rfl) ?_
      refine gX_9_lastLacking C hX0_covers_9_X0 hK hP mX0_covers_9_2 dX0_covers_11 ?_
      refine lv_iload_n C.1 C.2.1 dX0_covers_14 rfl (lv_at hl 2 rfl) ?_
      refine lv_iadd C.1 C.2.1 dX0_covers_15 ?_
      refine lv_aload_n C.1 C.2.1 dX0_covers_16 rfl (lv_at hl 0 rfl) ?_
      refine gX_9_lacking C hX0_covers_9_X0 hK hP mX0_covers_9_1 dX0_covers_17 ?_
      refine lv_icmp_ge (tgt := 32) C.1 C.2.1 dX0_covers_20 (by decide) (fun c20 => ?_) (fun c20 => ?_)
      · rw [if_pos c20] at h
        refine lv_aload_n C.1 C.2.1 dX0_covers_32 rfl (lv_at hl 0 rfl) ?_
        refine gX_9_lastLacking C hX0_covers_9_X0 hK hP mX0_covers_9_2 dX0_covers_33 ?_
        refine lv_iload_n C.1 C.2.1 dX0_covers_36 rfl (lv_at hl 2 rfl) ?_
        refine lv_iadd C.1 C.2.1 dX0_covers_37 ?_
        refine lv_aload_n C.1 C.2.1 dX0_covers_38 rfl (lv_at hl 0 rfl) ?_
        refine gX_9_lacking C hX0_covers_9_X0 hK hP mX0_covers_9_1 dX0_covers_39 ?_
        refine lv_isub C.1 C.2.1 dX0_covers_42 ?_
        exact wGX0_covers_9_43 C hK hJ ih _ _ _ _ _ _ _ h hP hS hl
      · rw [if_neg c20] at h
        refine lv_aload_n C.1 C.2.1 dX0_covers_23 rfl (lv_at hl 0 rfl) ?_
        refine gX_9_lastLacking C hX0_covers_9_X0 hK hP mX0_covers_9_2 dX0_covers_24 ?_
        refine lv_iload_n C.1 C.2.1 dX0_covers_27 rfl (lv_at hl 2 rfl) ?_
        refine lv_iadd C.1 C.2.1 dX0_covers_28 ?_
        refine lv_goto (tgt := 43) C.1 C.2.1 dX0_covers_29 (by decide) ?_
        exact wGX0_covers_9_43 C hK hJ ih _ _ _ _ _ _ _ h hP hS hl
set_option maxHeartbeats 4000000 in
set_option maxRecDepth 100000 in
theorem wX0_covers_9 {p : Program} {l : Launch} {e : Env} {s : State} {m : MethodId} {args : Array Value} {below : List Frame} {meth : Method} {c : Code} {D : va_G} {cy : Nat → ClassId} {ad st : Nat → Nat} (C : Cx RX0 cX0_covers 6 (some .boolean) wsX0_covers p s m args meth c) (hK : Ky D [(cy 0, .int), (cy 1, .long), (cy 2, .boolean), (cy 3, .byte), (cy 4, .object "HissHorn$Text")] st s) (hJ : JX ad st) (x1 : Int32) {u : SX} {r : Int32} {u' : SX} {H : Heap} {locs : List Loc} {ls : Array Slot} (h : fX0_covers_9 x1 u = some (r, u')) (hP : va_P D vwCl (VX cy ad st u) H) (hS : va_S (Ax (AX ad) s.heap.size) s.heap H locs) (hl : lv_has ls 6 [(0, .ref (ad 9)), (1, .int x1)]) : W p l e rmX0_covers_9 s m args below meth c H locs 0 0 (MQ below (Qi D (VX cy ad st) (AX ad) s.heap.size r u') args s 0 0 (Ax (AX ad) s.heap.size)) (F0 m 0 ls []) := by
  unfold fX0_covers_9 at h
  refine lv_iconst (v := 0) C.1 C.2.1 dX0_covers_0 (by decide) ?_
  refine lv_istore_n (lv' := [(2, .int 0), (0, .ref (ad 9)), (1, .int x1)]) C.1 C.2.1 dX0_covers_1 rfl hl (by decide) rfl (fun ls hl => ?_)
  replace hl := lv_sub (l' := [(0, .ref (ad 9)), (1, .int x1), (2, .int 0)]) hl [1, 2, 0] rfl
  exact wLX0_covers_9_2 C hK hJ  5000 _ _ _ _ _ _ h hP hS hl
theorem metX0_covers_9 (l : Launch) (D : va_G) (cy : Nat → ClassId) (ad st : Nat → Nat) (hJ : JX ad st) (sz : Nat) (x1 : Int32) {u : SX} {r : Int32} {u' : SX} (h : fX0_covers_9 x1 u = some (r, u')) : Met l yX0_covers wsX0_covers rmX0_covers_9 (va_Pc [.ref (ad 9), .int x1] (Px D [(cy 0, .int), (cy 1, .long), (cy 2, .boolean), (cy 3, .byte), (cy 4, .object "HissHorn$Text")] st (VX cy ad st) sz u)) (Qi D (VX cy ad st) (AX ad) sz r u') 0 0 (Ax (AX ad) sz) := by
  refine Met.ofW (cc := cX0_covers) (maxL := 6) (ret := (some .boolean)) (by decide) rfl ?_
  intro p e s m args below meth c s₁ B hml hv
  obtain ⟨rfl, hsz, hP, hK⟩ := hv
  subst hsz
  have C : Cx RX0 cX0_covers 6 (some .boolean) wsX0_covers p s m _ meth c := ⟨B.exec, B.bytes, hml, B.returns, findClass_of_methodNamed B.named, atoms_spec (ws := wsX0_covers) B.pre, B.notSynchronized⟩
  have hl := lv_entry ([.ref (ad 9), .int x1]) (n := 6) (Nat.le_of_ble_eq_true rfl)
  rw [lg_entry_eq]
  exact wX0_covers_9 C hK hJ x1 h hP va_S.rf hl

/-- room of a recursion by its depth -/
def rmX0chooseg (d : Nat) : Room := { frames := 1 + d, cells := 0, slots := 0, locals := 25 + 64 * d }
theorem rmX0chooseg_f (d : Nat) : 1 ≤ (rmX0chooseg d).frames := Nat.le_add_right _ _
theorem rmX0chooseg_l (d : Nat) : 25 ≤ (rmX0chooseg d).locals := Nat.le_add_right _ _
theorem rmX0chooseg_sf (d : Nat) : (rmX0chooseg d).frames + 1 ≤ (rmX0chooseg (d + 1)).frames := Nat.le_refl _
theorem rmX0chooseg_sl (d : Nat) {k : Nat} (h : k ≤ 64) : k + (rmX0chooseg d).locals ≤ (rmX0chooseg (d + 1)).locals := by show k + (25 + 64 * d) ≤ 25 + 64 * (d + 1); omega
def hRX0chooseg (l : Launch) (D : va_G) (cy : Nat → ClassId) (ad st : Nat → Nat) (rc : Nat → Int32 → Int32 → Int32 → SX → Option (Int32 × SX)) (dd : Nat) : Prop := (∀ (sz : Nat) (x1 : Int32) (x2 : Int32) (x3 : Int32) (u : SX) (r : Int32) (u' : SX), rc 0 x1 x2 x3 u = some (r, u') → Met l yX0_choose wsX0_choose (rmX0chooseg dd) (va_Pc [.ref (ad 9), .int x1, .int x2, .int x3] (Px D [(cy 0, .int), (cy 1, .long), (cy 2, .boolean), (cy 3, .byte), (cy 4, .object "HissHorn$Text")] st (VX cy ad st) sz u)) (Qi D (VX cy ad st) (AX ad) sz r u') 0 0 (Ax (AX ad) sz))

theorem zdX0_choose_18 : (and (and (and (and (and (zk cX0_choose 18 (.iload 4) 2) (zk cX0_choose 20 (.iload_n 2) 1)) (and (zk cX0_choose 21 (.iadd) 1) (zk cX0_choose 22 (.aload_n 0) 1))) (and (and (zk cX0_choose 23 (.getfield 22) 3) (zk cX0_choose 26 (.getfield 81) 3)) (and (zk cX0_choose 29 (.if_icmp .gt 31) 3) (zk cX0_choose 60 (.iconst 0) 1)))) (and (and (and (zk cX0_choose 61 (.ireturn) 1) (zk cX0_choose 32 (.aload_n 0) 1)) (and (zk cX0_choose 33 (.iload 4) 2) (zk cX0_choose 35 (.iconst 1) 1))) (and (and (zk cX0_choose 36 (.iadd) 1) (zk cX0_choose 37 (.iload_n 2) 1)) (and (zk cX0_choose 38 (.iconst 1) 1) (zk cX0_choose 39 (.isub) 1))))) (and (and (and (and (zk cX0_choose 40 (.iload_n 3) 1) (zk cX0_choose 41 (.iconst 1) 1)) (and (zk cX0_choose 42 (.iload 4) 2) (zk cX0_choose 44 (.ishl) 1))) (and (and (zk cX0_choose 45 (.ior) 1) (zk cX0_choose 46 (.invokevirtual 86) 3)) (and (zk cX0_choose 49 (.ifCond .eq 5) 3) (zk cX0_choose 54 (.iinc 4 1) 3)))) (and (and (and (zk cX0_choose 57 (.goto (-39)) 3) (zk cX0_choose 52 (.iconst 1) 1)) (and (zk cX0_choose 53 (.ireturn) 1) (zk cX0_choose 0 (.iload_n 2) 1))) (and (and (zk cX0_choose 1 (.ifCond .ne 14) 3) (zk cX0_choose 15 (.iload_n 1) 1)) (and (zk cX0_choose 16 (.istore 4) 2) (zk cX0_choose 4 (.aload_n 0) 1)))))) = true := by decide +kernel
theorem dX0_choose_18 : decode cX0_choose 18 = .ok (.iload 4, 2) := zk_of (zk_l (zk_l (zk_l (zk_l (zk_l zdX0_choose_18)))))
theorem dX0_choose_20 : decode cX0_choose 20 = .ok (.iload_n 2, 1) := zk_of (zk_r (zk_l (zk_l (zk_l (zk_l zdX0_choose_18)))))
theorem dX0_choose_21 : decode cX0_choose 21 = .ok (.iadd, 1) := zk_of (zk_l (zk_r (zk_l (zk_l (zk_l zdX0_choose_18)))))
theorem dX0_choose_22 : decode cX0_choose 22 = .ok (.aload_n 0, 1) := zk_of (zk_r (zk_r (zk_l (zk_l (zk_l zdX0_choose_18)))))
theorem dX0_choose_23 : decode cX0_choose 23 = .ok (.getfield 22, 3) := zk_of (zk_l (zk_l (zk_r (zk_l (zk_l zdX0_choose_18)))))
theorem dX0_choose_26 : decode cX0_choose 26 = .ok (.getfield 81, 3) := zk_of (zk_r (zk_l (zk_r (zk_l (zk_l zdX0_choose_18)))))
theorem dX0_choose_29 : decode cX0_choose 29 = .ok (.if_icmp .gt 31, 3) := zk_of (zk_l (zk_r (zk_r (zk_l (zk_l zdX0_choose_18)))))
theorem dX0_choose_60 : decode cX0_choose 60 = .ok (.iconst 0, 1) := zk_of (zk_r (zk_r (zk_r (zk_l (zk_l zdX0_choose_18)))))
theorem dX0_choose_61 : decode cX0_choose 61 = .ok (.ireturn, 1) := zk_of (zk_l (zk_l (zk_l (zk_r (zk_l zdX0_choose_18)))))
theorem dX0_choose_32 : decode cX0_choose 32 = .ok (.aload_n 0, 1) := zk_of (zk_r (zk_l (zk_l (zk_r (zk_l zdX0_choose_18)))))
theorem dX0_choose_33 : decode cX0_choose 33 = .ok (.iload 4, 2) := zk_of (zk_l (zk_r (zk_l (zk_r (zk_l zdX0_choose_18)))))
theorem dX0_choose_35 : decode cX0_choose 35 = .ok (.iconst 1, 1) := zk_of (zk_r (zk_r (zk_l (zk_r (zk_l zdX0_choose_18)))))
theorem dX0_choose_36 : decode cX0_choose 36 = .ok (.iadd, 1) := zk_of (zk_l (zk_l (zk_r (zk_r (zk_l zdX0_choose_18)))))
theorem dX0_choose_37 : decode cX0_choose 37 = .ok (.iload_n 2, 1) := zk_of (zk_r (zk_l (zk_r (zk_r (zk_l zdX0_choose_18)))))
theorem dX0_choose_38 : decode cX0_choose 38 = .ok (.iconst 1, 1) := zk_of (zk_l (zk_r (zk_r (zk_r (zk_l zdX0_choose_18)))))
theorem dX0_choose_39 : decode cX0_choose 39 = .ok (.isub, 1) := zk_of (zk_r (zk_r (zk_r (zk_r (zk_l zdX0_choose_18)))))
theorem dX0_choose_40 : decode cX0_choose 40 = .ok (.iload_n 3, 1) := zk_of (zk_l (zk_l (zk_l (zk_l (zk_r zdX0_choose_18)))))
theorem dX0_choose_41 : decode cX0_choose 41 = .ok (.iconst 1, 1) := zk_of (zk_r (zk_l (zk_l (zk_l (zk_r zdX0_choose_18)))))
theorem dX0_choose_42 : decode cX0_choose 42 = .ok (.iload 4, 2) := zk_of (zk_l (zk_r (zk_l (zk_l (zk_r zdX0_choose_18)))))
theorem dX0_choose_44 : decode cX0_choose 44 = .ok (.ishl, 1) := zk_of (zk_r (zk_r (zk_l (zk_l (zk_r zdX0_choose_18)))))
theorem dX0_choose_45 : decode cX0_choose 45 = .ok (.ior, 1) := zk_of (zk_l (zk_l (zk_r (zk_l (zk_r zdX0_choose_18)))))
theorem dX0_choose_46 : decode cX0_choose 46 = .ok (.invokevirtual 86, 3) := zk_of (zk_r (zk_l (zk_r (zk_l (zk_r zdX0_choose_18)))))
theorem dX0_choose_49 : decode cX0_choose 49 = .ok (.ifCond .eq 5, 3) := zk_of (zk_l (zk_r (zk_r (zk_l (zk_r zdX0_choose_18)))))
theorem dX0_choose_54 : decode cX0_choose 54 = .ok (.iinc 4 1, 3) := zk_of (zk_r (zk_r (zk_r (zk_l (zk_r zdX0_choose_18)))))
theorem dX0_choose_57 : decode cX0_choose 57 = .ok (.goto (-39), 3) := zk_of (zk_l (zk_l (zk_l (zk_r (zk_r zdX0_choose_18)))))
theorem dX0_choose_52 : decode cX0_choose 52 = .ok (.iconst 1, 1) := zk_of (zk_r (zk_l (zk_l (zk_r (zk_r zdX0_choose_18)))))
theorem dX0_choose_53 : decode cX0_choose 53 = .ok (.ireturn, 1) := zk_of (zk_l (zk_r (zk_l (zk_r (zk_r zdX0_choose_18)))))
theorem dX0_choose_0 : decode cX0_choose 0 = .ok (.iload_n 2, 1) := zk_of (zk_r (zk_r (zk_l (zk_r (zk_r zdX0_choose_18)))))
theorem dX0_choose_1 : decode cX0_choose 1 = .ok (.ifCond .ne 14, 3) := zk_of (zk_l (zk_l (zk_r (zk_r (zk_r zdX0_choose_18)))))
theorem dX0_choose_15 : decode cX0_choose 15 = .ok (.iload_n 1, 1) := zk_of (zk_r (zk_l (zk_r (zk_r (zk_r zdX0_choose_18)))))
theorem dX0_choose_16 : decode cX0_choose 16 = .ok (.istore 4, 2) := zk_of (zk_l (zk_r (zk_r (zk_r (zk_r zdX0_choose_18)))))
theorem dX0_choose_4 : decode cX0_choose 4 = .ok (.aload_n 0, 1) := zk_of (zk_r (zk_r (zk_r (zk_r (zk_r zdX0_choose_18)))))
set_option maxRecDepth 20000 in
theorem ggX0_choose_X0_choose : GoodIn wsX0_choose wsX0_choose := goodIn_r _ [0, 1, 2, 3, 4, 5, 6, 7, 8, 9, 10, 11, 12, 13, 14, 15, 16, 17, 18, 19, 20, 21, 22, 23, 24, 25, 26, 27, 28, 29, 30, 31, 32, 33, 34, 35, 36, 37, 38, 39, 40, 41] rfl (by decide +kernel)
set_option maxRecDepth 20000 in
theorem gX0_choose_X0_choose : GoodIn wsX0_choose (wsV RX0 86 RX0 yX0_choose wsX0_choose) := goodIn_app (goodIn_of _ (by decide +kernel)) ggX0_choose_X0_choose
theorem zdX0_choose_5 : (and (and (and (zk cX0_choose 5 (.iload_n 3) 1) (zk cX0_choose 6 (.putfield 89) 3)) (zk cX0_choose 9 (.aload_n 0) 1)) (and (and (zk cX0_choose 10 (.iload_n 3) 1) (zk cX0_choose 11 (.invokevirtual 82) 3)) (zk cX0_choose 14 (.ireturn) 1))) = true := by decide +kernel
theorem dX0_choose_5 : decode cX0_choose 5 = .ok (.iload_n 3, 1) := zk_of (zk_l (zk_l (zk_l zdX0_choose_5)))
theorem dX0_choose_6 : decode cX0_choose 6 = .ok (.putfield 89, 3) := zk_of (zk_r (zk_l (zk_l zdX0_choose_5)))
theorem dX0_choose_9 : decode cX0_choose 9 = .ok (.aload_n 0, 1) := zk_of (zk_r (zk_l zdX0_choose_5))
theorem dX0_choose_10 : decode cX0_choose 10 = .ok (.iload_n 3, 1) := zk_of (zk_l (zk_l (zk_r zdX0_choose_5)))
theorem dX0_choose_11 : decode cX0_choose 11 = .ok (.invokevirtual 82, 3) := zk_of (zk_r (zk_l (zk_r zdX0_choose_5)))
theorem dX0_choose_14 : decode cX0_choose 14 = .ok (.ireturn, 1) := zk_of (zk_r (zk_r zdX0_choose_5))
set_option maxRecDepth 20000 in
theorem ggX0_choose_X0_covers : GoodIn wsX0_choose wsX0_covers := goodIn_r _ [8, 9, 10, 11, 2, 3, 12, 16, 17, 18, 19, 20, 21, 22, 23, 24, 25, 26, 27, 28, 29, 30, 31, 32, 33, 34, 35, 36, 37, 38, 39, 40, 41] rfl (by decide +kernel)
set_option maxRecDepth 20000 in
theorem gX0_choose_X0_covers : GoodIn wsX0_choose (wsV RX0 82 RX0 yX0_covers wsX0_covers) := goodIn_app (goodIn_of _ (by decide +kernel)) ggX0_choose_X0_covers
/-- HissHorn$Blame.choose(III)Z of cell 9 -/
theorem hX0_choose_9_X0 : ∀ w ∈ u_ws RX0 TX0 9, w ∈ wsX0_choose := fun w h => (List.mem_cons_of_mem _ (List.mem_append_left _ (List.mem_append_right _ h)))
theorem mX0_choose_9_1 : Cond.fieldLink RX0 22 "HissHorn$Blame" "parts" "LHissHorn$Parts;" ∈ wsX0_choose := (List.mem_cons_of_mem _ (List.mem_append_left _ (List.mem_append_left _ (List.mem_of_getElem? (i := 1) rfl))))
theorem hX0_choose_9_X6 : ∀ w ∈ u_ws RX6 TX6 17, w ∈ wsX0_choose := fun w h => (List.mem_cons_of_mem _ (List.mem_append_right _ h))
theorem mX0_choose_9_3 : Cond.fieldLink RX0 81 "HissHorn$Parts" "known" "I" ∈ wsX0_choose := (List.mem_cons_of_mem _ (List.mem_append_left _ (List.mem_append_left _ (List.mem_of_getElem? (i := 2) rfl))))
def LX0_choose_9_18 (rc : Nat → Int32 → Int32 → Int32 → SX → Option (Int32 × SX))  : Nat → Int32 → Int32 → Int32 → SX → Option (Int32 × SX)
  | 0, _, _, _, _ => none
  | n + 1, z2, z3, z4, u => (if (u.1 10) < (z4 + z2) then (gd (isB 0) (some (0, u))) else ((rc 0 (z4 + 1) (z2 - 1) (z3 ||| (1 <<< (z4 &&& 31))) u).bind fun q => match q with | (r2, u3) => (if r2 = 0 then ((LX0_choose_9_18 rc n) z2 z3 (z4 + 1) u3) else (gd (isB 1) (some (1, u3))))))
theorem mX0_choose_9_4 : Cond.fieldLink RX0 89 "HissHorn$Blame" "found" "I" ∈ wsX0_choose := (List.mem_cons_of_mem _ (List.mem_append_left _ (List.mem_append_left _ (List.mem_of_getElem? (i := 0) rfl))))
def fX0_choose_9 (rc : Nat → Int32 → Int32 → Int32 → SX → Option (Int32 × SX)) (x1 : Int32) (x2 : Int32) (x3 : Int32) (u : SX) : Option (Int32 × SX) := (if x2 = 0 then (lt (sI u 28 x3) fun u6 => ((fX0_covers_9 x3 u6).bind fun q => match q with | (r8, u9) => (gd (isB r8) (some (r8, u9))))) else (LX0_choose_9_18 rc  5000 x2 x3 x1 u))
set_option maxHeartbeats 4000000 in
set_option maxRecDepth 100000 in
theorem wLX0_choose_9_18 {p : Program} {l : Launch} {e : Env} {s : State} {m : MethodId} {args : Array Value} {below : List Frame} {meth : Method} {c : Code} {D : va_G} {cy : Nat → ClassId} {ad st : Nat → Nat} (C : Cx RX0 cX0_choose 5 (some .boolean) wsX0_choose p s m args meth c) (hK : Ky D [(cy 0, .int), (cy 1, .long), (cy 2, .boolean), (cy 3, .byte), (cy 4, .object "HissHorn$Text")] st s) (hJ : JX ad st) {rc : Nat → Int32 → Int32 → Int32 → SX → Option (Int32 × SX)} {dd : Nat} (hrc : hRX0chooseg l D cy ad st rc dd) {r : Int32} {u' : SX}   : ∀ (n : Nat) (z2 : Int32) (z3 : Int32) (z4 : Int32) (u : SX) (H : Heap) (locs : List Loc) (ls : Array Slot), LX0_choose_9_18 rc  n z2 z3 z4 u = some (r, u') → va_P D vwCl (VX cy ad st u) H → va_S (Ax (AX ad) s.heap.size) s.heap H locs → lv_has ls 5 [(0, .ref (ad 9)), (2, .int z2), (3, .int z3), (4, .int z4)] → W p l e (rmX0chooseg (dd + 1)) s m args below meth c H locs 0 0 (MQ below (Qi D (VX cy ad st) (AX ad) s.heap.size r u') args s 0 0 (Ax (AX ad) s.heap.size)) (F0 m 18 ls []) := by
  intro n
  induction n with
  | zero =>
    intro z2 z3 z4 u H locs ls h
    exact absurd h (by intro q; cases q)
  | succ n ih =>
    intro z2 z3 z4 u H locs ls h hP hS hl
    rw [LX0_choose_9_18] at h
    refine lv_iload C.1 C.2.1 dX0_choose_18 (lv_at hl 3 rfl) ?_
    refine lv_iload_n C.1 C.2.1 dX0_choose_20 rfl (lv_at hl 1 rfl) ?_
    refine lv_iadd C.1 C.2.1 dX0_choose_21 ?_
    refine lv_aload_n C.1 C.2.1 dX0_choose_22 rfl (lv_at hl 0 rfl) ?_
    refine gX_9_parts C hX0_choose_9_X0 hK hP mX0_choose_9_1 dX0_choose_23 ?_
    refine gX_6_known C hX0_choose_9_X6 hK hP mX0_choose_9_3 dX0_choose_26 ?_
    refine lv_icmp_gt (tgt := 60) C.1 C.2.1 dX0_choose_29 (by decide) (fun c29 => ?_) (fun c29 => ?_)
    · rw [if_pos c29] at h
      refine lv_iconst (v := 0) C.1 C.2.1 dX0_choose_60 (by decide) ?_
      obtain ⟨hg1, h⟩ := gd_some h
      cases h
      exact rt_z hg1 C hP hS dX0_choose_61
    · rw [if_neg c29] at h
      refine lv_aload_n C.1 C.2.1 dX0_choose_32 rfl (lv_at hl 0 rfl) ?_
      refine lv_iload C.1 C.2.1 dX0_choose_33 (lv_at hl 3 rfl) ?_
      refine lv_iconst (v := 1) C.1 C.2.1 dX0_choose_35 (by decide) ?_
      refine lv_iadd C.1 C.2.1 dX0_choose_36 ?_
      refine lv_iload_n C.1 C.2.1 dX0_choose_37 rfl (lv_at hl 1 rfl) ?_
      refine lv_iconst (v := 1) C.1 C.2.1 dX0_choose_38 (by decide) ?_
      refine lv_isub C.1 C.2.1 dX0_choose_39 ?_
      refine lv_iload_n C.1 C.2.1 dX0_choose_40 rfl (lv_at hl 2 rfl) ?_
      refine lv_iconst (v := 1) C.1 C.2.1 dX0_choose_41 (by decide) ?_
      refine lv_iload C.1 C.2.1 dX0_choose_42 (lv_at hl 3 rfl) ?_
      refine lv_ishl C.1 C.2.1 dX0_choose_44 ?_
      refine lv_ior C.1 C.2.1 dX0_choose_45 ?_
      obtain ⟨⟨r2, u3⟩, hc4, h⟩ := bd_some h
      try dsimp only at h
      refine cg_i (As := [.int (z4 + 1), .int (z2 - 1), .int (z3 ||| (1 <<< (z4 &&& 31)))]) (rest := []) (AX_ge hJ) C hK hP hS (hrc _ (z4 + 1) (z2 - 1) (z3 ||| (1 <<< (z4 &&& 31))) _ _ _ hc4) (cwV 3 C.2.2.2.2.2.1 gX0_choose_X0_choose rfl rfl rfl (by decide +kernel) ⟨rmX0chooseg_sf dd, rmX0chooseg_sl dd (k := 8 + (5 + 11)) (Nat.le_of_ble_eq_true rfl)⟩) 9 0 rfl rfl rfl hl.1 rfl (Nat.le_of_ble_eq_true rfl) dX0_choose_46 ⟨Nat.zero_le _, Nat.zero_le _⟩ (fun H locs hP hS => ?_)
      refine lv_if_eq (tgt := 54) C.1 C.2.1 dX0_choose_49 (by decide) (fun c49 => ?_) (fun c49 => ?_)
      · rw [if_pos c49] at h
        refine lv_iinc (v := z4 + 1) (lv' := [(4, .int (z4 + 1)), (0, .ref (ad 9)), (2, .int z2), (3, .int z3)]) C.1 C.2.1 dX0_choose_54 hl (k := 3) rfl rfl (by decide) rfl (fun ls hl => ?_)
        replace hl := lv_sub (l' := [(0, .ref (ad 9)), (2, .int z2), (3, .int z3), (4, .int (z4 + 1))]) hl [1, 2, 3, 0] rfl
        refine lv_goto (tgt := 18) C.1 C.2.1 dX0_choose_57 (by decide) ?_
        exact ih _ _ _ _ _ _ _ h hP hS hl
      · rw [if_neg c49] at h
        refine lv_iconst (v := 1) C.1 C.2.1 dX0_choose_52 (by decide) ?_
        obtain ⟨hg5, h⟩ := gd_some h
        cases h
        exact rt_z hg5 C hP hS dX0_choose_53
set_option maxHeartbeats 4000000 in
set_option maxRecDepth 100000 in
theorem wX0_choose_9 {p : Program} {l : Launch} {e : Env} {s : State} {m : MethodId} {args : Array Value} {below : List Frame} {meth : Method} {c : Code} {D : va_G} {cy : Nat → ClassId} {ad st : Nat → Nat} (C : Cx RX0 cX0_choose 5 (some .boolean) wsX0_choose p s m args meth c) (hK : Ky D [(cy 0, .int), (cy 1, .long), (cy 2, .boolean), (cy 3, .byte), (cy 4, .object "HissHorn$Text")] st s) (hJ : JX ad st) {rc : Nat → Int32 → Int32 → Int32 → SX → Option (Int32 × SX)} {dd : Nat} (hrc : hRX0chooseg l D cy ad st rc dd) (x1 : Int32) (x2 : Int32) (x3 : Int32) {u : SX} {r : Int32} {u' : SX} {H : Heap} {locs : List Loc} {ls : Array Slot} (h : fX0_choose_9 rc x1 x2 x3 u = some (r, u')) (hP : va_P D vwCl (VX cy ad st u) H) (hS : va_S (Ax (AX ad) s.heap.size) s.heap H locs) (hl : lv_has ls 5 [(0, .ref (ad 9)), (1, .int x1), (2, .int x2), (3, .int x3)]) : W p l e (rmX0chooseg (dd + 1)) s m args below meth c H locs 0 0 (MQ below (Qi D (VX cy ad st) (AX ad) s.heap.size r u') args s 0 0 (Ax (AX ad) s.heap.size)) (F0 m 0 ls []) := by
  unfold fX0_choose_9 at h
  refine lv_iload_n C.1 C.2.1 dX0_choose_0 rfl (lv_at hl 2 rfl) ?_
  refine lv_if_ne (tgt := 15) C.1 C.2.1 dX0_choose_1 (by decide) (fun c1 => ?_) (fun c1 => ?_)
  · rw [if_neg c1] at h
    refine lv_iload_n C.1 C.2.1 dX0_choose_15 rfl (lv_at hl 1 rfl) ?_
    refine lv_istore (lv' := [(4, .int x1), (0, .ref (ad 9)), (1, .int x1), (2, .int x2), (3, .int x3)]) C.1 C.2.1 dX0_choose_16 hl (by decide) rfl (fun ls hl => ?_)
    replace hl := lv_sub (l' := [(0, .ref (ad 9)), (1, .int x1), (2, .int x2), (3, .int x3), (4, .int x1)]) hl [1, 2, 3, 4, 0] rfl
    exact wLX0_choose_9_18 C hK hJ hrc  5000 _ _ _ _ _ _ _ h hP hS (lv_sub hl [0, 2, 3, 4] rfl)
  · rw [if_pos c1] at h
    refine lv_aload_n C.1 C.2.1 dX0_choose_4 rfl (lv_at hl 0 rfl) ?_
    refine lv_iload_n C.1 C.2.1 dX0_choose_5 rfl (lv_at hl 3 rfl) ?_
    refine pX_9_found C hX0_choose_9_X0 hK hP hJ hS mX0_choose_9_4 dX0_choose_6 (fun H locs hP hS => ?_)
    obtain ⟨u6, hu7, h⟩ := lt_some h
    rw [← hu7] at hP
    refine lv_aload_n C.1 C.2.1 dX0_choose_9 rfl (lv_at hl 0 rfl) ?_
    refine lv_iload_n C.1 C.2.1 dX0_choose_10 rfl (lv_at hl 3 rfl) ?_
    obtain ⟨⟨r8, u9⟩, hc10, h⟩ := bd_some h
    try dsimp only at h
    refine cg_i (As := [.int x3]) (rest := []) (AX_ge hJ) C hK hP hS (metX0_covers_9 l D cy ad st hJ _ x3 hc10) (cwV 1 C.2.2.2.2.2.1 gX0_choose_X0_covers rfl rfl rfl (by decide +kernel) ⟨(Nat.le_trans (m := 1) (Nat.le_of_ble_eq_true rfl) (rmX0chooseg_f _)), (Nat.le_trans (m := 25) (Nat.le_of_ble_eq_true rfl) (rmX0chooseg_l _))⟩) 9 0 rfl rfl rfl hl.1 rfl (Nat.le_of_ble_eq_true rfl) dX0_choose_11 ⟨Nat.zero_le _, Nat.zero_le _⟩ (fun H locs hP hS => ?_)
    obtain ⟨hg11, h⟩ := gd_some h
    cases h
    exact rt_z hg11 C hP hS dX0_choose_14
theorem metX0_choose_9 (l : Launch) (D : va_G) (cy : Nat → ClassId) (ad st : Nat → Nat) (hJ : JX ad st) {rc : Nat → Int32 → Int32 → Int32 → SX → Option (Int32 × SX)} {dd : Nat} (hrc : hRX0chooseg l D cy ad st rc dd) (sz : Nat) (x1 : Int32) (x2 : Int32) (x3 : Int32) {u : SX} {r : Int32} {u' : SX} (h : fX0_choose_9 rc x1 x2 x3 u = some (r, u')) : Met l yX0_choose wsX0_choose (rmX0chooseg (dd + 1)) (va_Pc [.ref (ad 9), .int x1, .int x2, .int x3] (Px D [(cy 0, .int), (cy 1, .long), (cy 2, .boolean), (cy 3, .byte), (cy 4, .object "HissHorn$Text")] st (VX cy ad st) sz u)) (Qi D (VX cy ad st) (AX ad) sz r u') 0 0 (Ax (AX ad) sz) := by
  refine Met.ofW (cc := cX0_choose) (maxL := 5) (ret := (some .boolean)) (by decide) rfl ?_
  intro p e s m args below meth c s₁ B hml hv
  obtain ⟨rfl, hsz, hP, hK⟩ := hv
  subst hsz
  have C : Cx RX0 cX0_choose 5 (some .boolean) wsX0_choose p s m _ meth c := ⟨B.exec, B.bytes, hml, B.returns, findClass_of_methodNamed B.named, atoms_spec (ws := wsX0_choose) B.pre, B.notSynchronized⟩
  have hl := lv_entry ([.ref (ad 9), .int x1, .int x2, .int x3]) (n := 5) (Nat.le_of_ble_eq_true rfl)
  rw [lg_entry_eq]
  exact wX0_choose_9 C hK hJ hrc x1 x2 x3 h hP va_S.rf hl

def rX0chooseg : Nat → Nat → Int32 → Int32 → Int32 → SX → Option (Int32 × SX)
  | 0, _, _, _, _, _ => none
  | d + 1, t, a0, a1, a2, u => (if t = 0 then fX0_choose_9 (rX0chooseg d) a0 a1 a2 u else none)
theorem hRX0chooseg_all (l : Launch) (D : va_G) (cy : Nat → ClassId) (ad st : Nat → Nat) (hJ : JX ad st) : ∀ d, hRX0chooseg l D cy ad st (rX0chooseg d) d := by
  intro d
  induction d with
  | zero =>
    skip
    · intro sz x1 x2 x3 u r u' h
      exact absurd h (by intro q; cases q)
  | succ d ih =>
    skip
    · intro sz x1 x2 x3 u r u' h
      rw [rX0chooseg] at h
      rw [if_pos rfl] at h
      exact metX0_choose_9 l D cy ad st hJ ih sz x1 x2 x3 h

theorem zdX0_fewest_52 : (and (and (and (and (and (zk cX0_fewest 52 (.iinc 1 1) 3) (zk cX0_fewest 55 (.goto (-43)) 3)) (and (zk cX0_fewest 47 (.aload_n 0) 1) (zk cX0_fewest 48 (.iload_n 1) 1))) (and (and (zk cX0_fewest 49 (.invokevirtual 77) 3) (zk cX0_fewest 12 (.iload_n 1) 1)) (and (zk cX0_fewest 13 (.aload_n 0) 1) (zk cX0_fewest 14 (.getfield 18) 3)))) (and (and (and (zk cX0_fewest 17 (.getfield 33) 3) (zk cX0_fewest 20 (.if_icmp .ge 38) 3)) (and (zk cX0_fewest 23 (.aload_n 0) 1) (zk cX0_fewest 24 (.getfield 18) 3))) (and (and (zk cX0_fewest 27 (.getfield 53) 3) (zk cX0_fewest 30 (.iload_n 1) 1)) (and (zk cX0_fewest 31 (.iaload) 1) (zk cX0_fewest 32 (.ifCond .gt 15) 3))))) (and (and (and (and (zk cX0_fewest 35 (.aload_n 0) 1) (zk cX0_fewest 36 (.getfield 18) 3)) (and (zk cX0_fewest 39 (.getfield 61) 3) (zk cX0_fewest 42 (.iload_n 1) 1))) (and (and (zk cX0_fewest 43 (.iaload) 1) (zk cX0_fewest 44 (.ifCond .ge 8) 3)) (and (zk cX0_fewest 80 (.iload_n 1) 1) (zk cX0_fewest 81 (.aload_n 0) 1)))) (and (and (and (zk cX0_fewest 82 (.getfield 22) 3) (zk cX0_fewest 85 (.getfield 81) 3)) (and (zk cX0_fewest 88 (.if_icmp .gt 24) 3) (zk cX0_fewest 112 (.iconst (-1)) 1))) (and (and (zk cX0_fewest 113 (.ireturn) 1) (zk cX0_fewest 91 (.aload_n 0) 1)) (and (zk cX0_fewest 92 (.iconst 0) 1) (zk cX0_fewest 93 (.iload_n 1) 1)))))) = true := by decide +kernel
theorem dX0_fewest_52 : decode cX0_fewest 52 = .ok (.iinc 1 1, 3) := zk_of (zk_l (zk_l (zk_l (zk_l (zk_l zdX0_fewest_52)))))
theorem dX0_fewest_55 : decode cX0_fewest 55 = .ok (.goto (-43), 3) := zk_of (zk_r (zk_l (zk_l (zk_l (zk_l zdX0_fewest_52)))))
theorem dX0_fewest_47 : decode cX0_fewest 47 = .ok (.aload_n 0, 1) := zk_of (zk_l (zk_r (zk_l (zk_l (zk_l zdX0_fewest_52)))))
theorem dX0_fewest_48 : decode cX0_fewest 48 = .ok (.iload_n 1, 1) := zk_of (zk_r (zk_r (zk_l (zk_l (zk_l zdX0_fewest_52)))))
theorem dX0_fewest_49 : decode cX0_fewest 49 = .ok (.invokevirtual 77, 3) := zk_of (zk_l (zk_l (zk_r (zk_l (zk_l zdX0_fewest_52)))))
theorem dX0_fewest_12 : decode cX0_fewest 12 = .ok (.iload_n 1, 1) := zk_of (zk_r (zk_l (zk_r (zk_l (zk_l zdX0_fewest_52)))))
theorem dX0_fewest_13 : decode cX0_fewest 13 = .ok (.aload_n 0, 1) := zk_of (zk_l (zk_r (zk_r (zk_l (zk_l zdX0_fewest_52)))))
theorem dX0_fewest_14 : decode cX0_fewest 14 = .ok (.getfield 18, 3) := zk_of (zk_r (zk_r (zk_r (zk_l (zk_l zdX0_fewest_52)))))
theorem dX0_fewest_17 : decode cX0_fewest 17 = .ok (.getfield 33, 3) := zk_of (zk_l (zk_l (zk_l (zk_r (zk_l zdX0_fewest_52)))))
theorem dX0_fewest_20 : decode cX0_fewest 20 = .ok (.if_icmp .ge 38, 3) := zk_of (zk_r (zk_l (zk_l (zk_r (zk_l zdX0_fewest_52)))))
theorem dX0_fewest_23 : decode cX0_fewest 23 = .ok (.aload_n 0, 1) := zk_of (zk_l (zk_r (zk_l (zk_r (zk_l zdX0_fewest_52)))))
theorem dX0_fewest_24 : decode cX0_fewest 24 = .ok (.getfield 18, 3) := zk_of (zk_r (zk_r (zk_l (zk_r (zk_l zdX0_fewest_52)))))
theorem dX0_fewest_27 : decode cX0_fewest 27 = .ok (.getfield 53, 3) := zk_of (zk_l (zk_l (zk_r (zk_r (zk_l zdX0_fewest_52)))))
theorem dX0_fewest_30 : decode cX0_fewest 30 = .ok (.iload_n 1, 1) := zk_of (zk_r (zk_l (zk_r (zk_r (zk_l zdX0_fewest_52)))))
theorem dX0_fewest_31 : decode cX0_fewest 31 = .ok (.iaload, 1) := zk_of (zk_l (zk_r (zk_r (zk_r (zk_l zdX0_fewest_52)))))
theorem dX0_fewest_32 : decode cX0_fewest 32 = .ok (.ifCond .gt 15, 3) := zk_of (zk_r (zk_r (zk_r (zk_r (zk_l zdX0_fewest_52)))))
theorem dX0_fewest_35 : decode cX0_fewest 35 = .ok (.aload_n 0, 1) := zk_of (zk_l (zk_l (zk_l (zk_l (zk_r zdX0_fewest_52)))))
theorem dX0_fewest_36 : decode cX0_fewest 36 = .ok (.getfield 18, 3) := zk_of (zk_r (zk_l (zk_l (zk_l (zk_r zdX0_fewest_52)))))
theorem dX0_fewest_39 : decode cX0_fewest 39 = .ok (.getfield 61, 3) := zk_of (zk_l (zk_r (zk_l (zk_l (zk_r zdX0_fewest_52)))))
theorem dX0_fewest_42 : decode cX0_fewest 42 = .ok (.iload_n 1, 1) := zk_of (zk_r (zk_r (zk_l (zk_l (zk_r zdX0_fewest_52)))))
theorem dX0_fewest_43 : decode cX0_fewest 43 = .ok (.iaload, 1) := zk_of (zk_l (zk_l (zk_r (zk_l (zk_r zdX0_fewest_52)))))
theorem dX0_fewest_44 : decode cX0_fewest 44 = .ok (.ifCond .ge 8, 3) := zk_of (zk_r (zk_l (zk_r (zk_l (zk_r zdX0_fewest_52)))))
theorem dX0_fewest_80 : decode cX0_fewest 80 = .ok (.iload_n 1, 1) := zk_of (zk_l (zk_r (zk_r (zk_l (zk_r zdX0_fewest_52)))))
theorem dX0_fewest_81 : decode cX0_fewest 81 = .ok (.aload_n 0, 1) := zk_of (zk_r (zk_r (zk_r (zk_l (zk_r zdX0_fewest_52)))))
theorem dX0_fewest_82 : decode cX0_fewest 82 = .ok (.getfield 22, 3) := zk_of (zk_l (zk_l (zk_l (zk_r (zk_r zdX0_fewest_52)))))
theorem dX0_fewest_85 : decode cX0_fewest 85 = .ok (.getfield 81, 3) := zk_of (zk_r (zk_l (zk_l (zk_r (zk_r zdX0_fewest_52)))))
theorem dX0_fewest_88 : decode cX0_fewest 88 = .ok (.if_icmp .gt 24, 3) := zk_of (zk_l (zk_r (zk_l (zk_r (zk_r zdX0_fewest_52)))))
theorem dX0_fewest_112 : decode cX0_fewest 112 = .ok (.iconst (-1), 1) := zk_of (zk_r (zk_r (zk_l (zk_r (zk_r zdX0_fewest_52)))))
theorem dX0_fewest_113 : decode cX0_fewest 113 = .ok (.ireturn, 1) := zk_of (zk_l (zk_l (zk_r (zk_r (zk_r zdX0_fewest_52)))))
theorem dX0_fewest_91 : decode cX0_fewest 91 = .ok (.aload_n 0, 1) := zk_of (zk_r (zk_l (zk_r (zk_r (zk_r zdX0_fewest_52)))))
theorem dX0_fewest_92 : decode cX0_fewest 92 = .ok (.iconst 0, 1) := zk_of (zk_l (zk_r (zk_r (zk_r (zk_r zdX0_fewest_52)))))
theorem dX0_fewest_93 : decode cX0_fewest 93 = .ok (.iload_n 1, 1) := zk_of (zk_r (zk_r (zk_r (zk_r (zk_r zdX0_fewest_52)))))
set_option maxRecDepth 20000 in
theorem ggX0_fewest_X0_weigh : GoodIn wsX0_fewest wsX0_weigh := ggi (fun w h => List.mem_cons_of_mem _ (List.mem_append_left _ (List.mem_append_left _ (List.mem_append_left _ (List.mem_append_left _ (List.mem_append_left _ (List.mem_append_right _ (List.mem_append_left _ h)))))))) gs_X0_weigh
set_option maxRecDepth 20000 in
theorem gX0_fewest_X0_weigh : GoodIn wsX0_fewest (wsV RX0 77 RX0 yX0_weigh wsX0_weigh) := goodIn_app (goodIn_of _ (by decide +kernel)) ggX0_fewest_X0_weigh
theorem zdX0_fewest_94 : (and (and (and (and (and (zk cX0_fewest 94 (.iconst 0) 1) (zk cX0_fewest 95 (.invokevirtual 86) 3)) (and (zk cX0_fewest 98 (.ifCond .eq 8) 3) (zk cX0_fewest 106 (.iinc 1 1) 3))) (and (and (zk cX0_fewest 109 (.goto (-29)) 3) (zk cX0_fewest 101 (.aload_n 0) 1)) (and (zk cX0_fewest 102 (.getfield 89) 3) (zk cX0_fewest 105 (.ireturn) 1)))) (and (and (and (zk cX0_fewest 58 (.aload_n 0) 1) (zk cX0_fewest 59 (.iconst 1) 1)) (and (zk cX0_fewest 60 (.aload_n 0) 1) (zk cX0_fewest 61 (.getfield 22) 3))) (and (and (zk cX0_fewest 64 (.getfield 81) 3) (zk cX0_fewest 67 (.ishl) 1)) (zk cX0_fewest 68 (.iconst 1) 1)))) (and (and (and (and (zk cX0_fewest 69 (.isub) 1) (zk cX0_fewest 70 (.invokevirtual 82) 3)) (and (zk cX0_fewest 73 (.ifCond .ne 5) 3) (zk cX0_fewest 78 (.iconst 0) 1))) (and (and (zk cX0_fewest 79 (.istore_n 1) 1) (zk cX0_fewest 76 (.iconst (-1)) 1)) (and (zk cX0_fewest 77 (.ireturn) 1) (zk cX0_fewest 0 (.aload_n 0) 1)))) (and (and (and (zk cX0_fewest 1 (.iconst 0) 1) (zk cX0_fewest 2 (.putfield 71) 3)) (and (zk cX0_fewest 5 (.aload_n 0) 1) (zk cX0_fewest 6 (.iconst 0) 1))) (and (and (zk cX0_fewest 7 (.putfield 74) 3) (zk cX0_fewest 10 (.iconst 0) 1)) (zk cX0_fewest 11 (.istore_n 1) 1))))) = true := by decide +kernel
theorem dX0_fewest_94 : decode cX0_fewest 94 = .ok (.iconst 0, 1) := zk_of (zk_l (zk_l (zk_l (zk_l (zk_l zdX0_fewest_94)))))
theorem dX0_fewest_95 : decode cX0_fewest 95 = .ok (.invokevirtual 86, 3) := zk_of (zk_r (zk_l (zk_l (zk_l (zk_l zdX0_fewest_94)))))
theorem dX0_fewest_98 : decode cX0_fewest 98 = .ok (.ifCond .eq 8, 3) := zk_of (zk_l (zk_r (zk_l (zk_l (zk_l zdX0_fewest_94)))))
theorem dX0_fewest_106 : decode cX0_fewest 106 = .ok (.iinc 1 1, 3) := zk_of (zk_r (zk_r (zk_l (zk_l (zk_l zdX0_fewest_94)))))
theorem dX0_fewest_109 : decode cX0_fewest 109 = .ok (.goto (-29), 3) := zk_of (zk_l (zk_l (zk_r (zk_l (zk_l zdX0_fewest_94)))))
theorem dX0_fewest_101 : decode cX0_fewest 101 = .ok (.aload_n 0, 1) := zk_of (zk_r (zk_l (zk_r (zk_l (zk_l zdX0_fewest_94)))))
theorem dX0_fewest_102 : decode cX0_fewest 102 = .ok (.getfield 89, 3) := zk_of (zk_l (zk_r (zk_r (zk_l (zk_l zdX0_fewest_94)))))
theorem dX0_fewest_105 : decode cX0_fewest 105 = .ok (.ireturn, 1) := zk_of (zk_r (zk_r (zk_r (zk_l (zk_l zdX0_fewest_94)))))
theorem dX0_fewest_58 : decode cX0_fewest 58 = .ok (.aload_n 0, 1) := zk_of (zk_l (zk_l (zk_l (zk_r (zk_l zdX0_fewest_94)))))
theorem dX0_fewest_59 : decode cX0_fewest 59 = .ok (.iconst 1, 1) := zk_of (zk_r (zk_l (zk_l (zk_r (zk_l zdX0_fewest_94)))))
theorem dX0_fewest_60 : decode cX0_fewest 60 = .ok (.aload_n 0, 1) := zk_of (zk_l (zk_r (zk_l (zk_r (zk_l zdX0_fewest_94)))))
theorem dX0_fewest_61 : decode cX0_fewest 61 = .ok (.getfield 22, 3) := zk_of (zk_r (zk_r (zk_l (zk_r (zk_l zdX0_fewest_94)))))
theorem dX0_fewest_64 : decode cX0_fewest 64 = .ok (.getfield 81, 3) := zk_of (zk_l (zk_l (zk_r (zk_r (zk_l zdX0_fewest_94)))))
theorem dX0_fewest_67 : decode cX0_fewest 67 = .ok (.ishl, 1) := zk_of (zk_r (zk_l (zk_r (zk_r (zk_l zdX0_fewest_94)))))
theorem dX0_fewest_68 : decode cX0_fewest 68 = .ok (.iconst 1, 1) := zk_of (zk_r (zk_r (zk_r (zk_l zdX0_fewest_94))))
theorem dX0_fewest_69 : decode cX0_fewest 69 = .ok (.isub, 1) := zk_of (zk_l (zk_l (zk_l (zk_l (zk_r zdX0_fewest_94)))))
theorem dX0_fewest_70 : decode cX0_fewest 70 = .ok (.invokevirtual 82, 3) := zk_of (zk_r (zk_l (zk_l (zk_l (zk_r zdX0_fewest_94)))))
theorem dX0_fewest_73 : decode cX0_fewest 73 = .ok (.ifCond .ne 5, 3) := zk_of (zk_l (zk_r (zk_l (zk_l (zk_r zdX0_fewest_94)))))
theorem dX0_fewest_78 : decode cX0_fewest 78 = .ok (.iconst 0, 1) := zk_of (zk_r (zk_r (zk_l (zk_l (zk_r zdX0_fewest_94)))))
theorem dX0_fewest_79 : decode cX0_fewest 79 = .ok (.istore_n 1, 1) := zk_of (zk_l (zk_l (zk_r (zk_l (zk_r zdX0_fewest_94)))))
theorem dX0_fewest_76 : decode cX0_fewest 76 = .ok (.iconst (-1), 1) := zk_of (zk_r (zk_l (zk_r (zk_l (zk_r zdX0_fewest_94)))))
theorem dX0_fewest_77 : decode cX0_fewest 77 = .ok (.ireturn, 1) := zk_of (zk_l (zk_r (zk_r (zk_l (zk_r zdX0_fewest_94)))))
theorem dX0_fewest_0 : decode cX0_fewest 0 = .ok (.aload_n 0, 1) := zk_of (zk_r (zk_r (zk_r (zk_l (zk_r zdX0_fewest_94)))))
theorem dX0_fewest_1 : decode cX0_fewest 1 = .ok (.iconst 0, 1) := zk_of (zk_l (zk_l (zk_l (zk_r (zk_r zdX0_fewest_94)))))
theorem dX0_fewest_2 : decode cX0_fewest 2 = .ok (.putfield 71, 3) := zk_of (zk_r (zk_l (zk_l (zk_r (zk_r zdX0_fewest_94)))))
theorem dX0_fewest_5 : decode cX0_fewest 5 = .ok (.aload_n 0, 1) := zk_of (zk_l (zk_r (zk_l (zk_r (zk_r zdX0_fewest_94)))))
theorem dX0_fewest_6 : decode cX0_fewest 6 = .ok (.iconst 0, 1) := zk_of (zk_r (zk_r (zk_l (zk_r (zk_r zdX0_fewest_94)))))
theorem dX0_fewest_7 : decode cX0_fewest 7 = .ok (.putfield 74, 3) := zk_of (zk_l (zk_l (zk_r (zk_r (zk_r zdX0_fewest_94)))))
theorem dX0_fewest_10 : decode cX0_fewest 10 = .ok (.iconst 0, 1) := zk_of (zk_r (zk_l (zk_r (zk_r (zk_r zdX0_fewest_94)))))
theorem dX0_fewest_11 : decode cX0_fewest 11 = .ok (.istore_n 1, 1) := zk_of (zk_r (zk_r (zk_r (zk_r zdX0_fewest_94))))
set_option maxRecDepth 20000 in
theorem ggX0_fewest_X0_choose : GoodIn wsX0_fewest wsX0_choose := ggi (fun w h => List.mem_cons_of_mem _ (List.mem_append_left _ (List.mem_append_left _ (List.mem_append_left _ (List.mem_append_left _ (List.mem_append_left _ (List.mem_append_right _ (List.mem_append_right _ (List.mem_append_left _ h))))))))) gs_X0_choose
set_option maxRecDepth 20000 in
theorem gX0_fewest_X0_choose : GoodIn wsX0_fewest (wsV RX0 86 RX0 yX0_choose wsX0_choose) := goodIn_app (goodIn_of _ (by decide +kernel)) ggX0_fewest_X0_choose
set_option maxRecDepth 20000 in
theorem ggX0_fewest_X0_covers : GoodIn wsX0_fewest wsX0_covers := ggi (fun w h => List.mem_cons_of_mem _ (List.mem_append_left _ (List.mem_append_left _ (List.mem_append_left _ (List.mem_append_left _ (List.mem_append_left _ (List.mem_append_right _ (List.mem_append_right _ (List.mem_append_right _ h))))))))) gs_X0_covers
set_option maxRecDepth 20000 in
theorem gX0_fewest_X0_covers : GoodIn wsX0_fewest (wsV RX0 82 RX0 yX0_covers wsX0_covers) := goodIn_app (goodIn_of _ (by decide +kernel)) ggX0_fewest_X0_covers
/-- HissHorn$Blame.fewest()I of cell 9 -/
def rmX0_fewest_9 : Room := { frames := 18, cells := 0, slots := 0, locals := 1073 }
theorem hX0_fewest_9_X0 : ∀ w ∈ u_ws RX0 TX0 9, w ∈ wsX0_fewest := fun w h => (List.mem_cons_of_mem _ (List.mem_append_left _ (List.mem_append_left _ (List.mem_append_left _ (List.mem_append_left _ (List.mem_append_right _ h))))))
theorem mX0_fewest_9_1 : Cond.fieldLink RX0 71 "HissHorn$Blame" "lacking" "I" ∈ wsX0_fewest := (List.mem_cons_of_mem _ (List.mem_append_left _ (List.mem_append_left _ (List.mem_append_left _ (List.mem_append_left _ (List.mem_append_left _ (List.mem_append_left _ (List.mem_of_getElem? (i := 10) rfl))))))))
theorem mX0_fewest_9_2 : Cond.fieldLink RX0 74 "HissHorn$Blame" "lastLacking" "I" ∈ wsX0_fewest := (List.mem_cons_of_mem _ (List.mem_append_left _ (List.mem_append_left _ (List.mem_append_left _ (List.mem_append_left _ (List.mem_append_left _ (List.mem_append_left _ (List.mem_of_getElem? (i := 11) rfl))))))))
theorem mX0_fewest_9_3 : Cond.fieldLink RX0 18 "HissHorn$Blame" "readings" "LHissHorn$Readings;" ∈ wsX0_fewest := (List.mem_cons_of_mem _ (List.mem_append_left _ (List.mem_append_left _ (List.mem_append_left _ (List.mem_append_left _ (List.mem_append_left _ (List.mem_append_left _ (List.mem_of_getElem? (i := 12) rfl))))))))
theorem hX0_fewest_9_X7 : ∀ w ∈ u_ws RX7 TX7 12, w ∈ wsX0_fewest := fun w h => (List.mem_cons_of_mem _ (List.mem_append_left _ (List.mem_append_left _ (List.mem_append_left _ (List.mem_append_right _ h)))))
theorem mX0_fewest_9_5 : Cond.fieldLink RX0 33 "HissHorn$Readings" "known" "I" ∈ wsX0_fewest := (List.mem_cons_of_mem _ (List.mem_append_left _ (List.mem_append_left _ (List.mem_append_left _ (List.mem_append_left _ (List.mem_append_left _ (List.mem_append_left _ (List.mem_of_getElem? (i := 13) rfl))))))))
theorem mX0_fewest_9_6 : Cond.fieldLink RX0 53 "HissHorn$Readings" "lower" "[I" ∈ wsX0_fewest := (List.mem_cons_of_mem _ (List.mem_append_left _ (List.mem_append_left _ (List.mem_append_left _ (List.mem_append_left _ (List.mem_append_left _ (List.mem_append_left _ (List.mem_of_getElem? (i := 14) rfl))))))))
def GX0_fewest_9_52 (k12 : Int32 → SX → Option (Int32 × SX)) (z1 : Int32) (u : SX) : Option (Int32 × SX) := (k12 (z1 + 1) u)
def GX0_fewest_9_47 (k12 : Int32 → SX → Option (Int32 × SX)) (z1 : Int32) (u : SX) : Option (Int32 × SX) := ((fX0_weigh_9 z1 u).bind fun q => match q with | (r6, u7) => (GX0_fewest_9_52 k12 z1 u7))
theorem mX0_fewest_9_7 : Cond.fieldLink RX0 61 "HissHorn$Readings" "upper" "[I" ∈ wsX0_fewest := (List.mem_cons_of_mem _ (List.mem_append_left _ (List.mem_append_left _ (List.mem_append_left _ (List.mem_append_left _ (List.mem_append_left _ (List.mem_append_left _ (List.mem_of_getElem? (i := 15) rfl))))))))
def LX0_fewest_9_12 (k58 : SX → Option (Int32 × SX)) : Nat → Int32 → SX → Option (Int32 × SX)
  | 0, _, _ => none
  | n + 1, z1, u => (if (u.1 14) ≤ z1 then (k58 u) else (gd (inb z1 80) (if 0 < (u.2.1 38 z1.toNatClampNeg) then (GX0_fewest_9_47 (LX0_fewest_9_12 k58 n) z1 u) else (gd (inb z1 80) (if 0 ≤ (u.2.1 39 z1.toNatClampNeg) then (GX0_fewest_9_52 (LX0_fewest_9_12 k58 n) z1 u) else (GX0_fewest_9_47 (LX0_fewest_9_12 k58 n) z1 u))))))
theorem mX0_fewest_9_8 : Cond.fieldLink RX0 22 "HissHorn$Blame" "parts" "LHissHorn$Parts;" ∈ wsX0_fewest := (List.mem_cons_of_mem _ (List.mem_append_left _ (List.mem_append_left _ (List.mem_append_left _ (List.mem_append_left _ (List.mem_append_left _ (List.mem_append_left _ (List.mem_of_getElem? (i := 16) rfl))))))))
theorem hX0_fewest_9_X6 : ∀ w ∈ u_ws RX6 TX6 17, w ∈ wsX0_fewest := fun w h => (List.mem_cons_of_mem _ (List.mem_append_left _ (List.mem_append_left _ (List.mem_append_right _ h))))
theorem mX0_fewest_9_10 : Cond.fieldLink RX0 81 "HissHorn$Parts" "known" "I" ∈ wsX0_fewest := (List.mem_cons_of_mem _ (List.mem_append_left _ (List.mem_append_left _ (List.mem_append_left _ (List.mem_append_left _ (List.mem_append_left _ (List.mem_append_left _ (List.mem_of_getElem? (i := 17) rfl))))))))
theorem mX0_fewest_9_11 : Cond.fieldLink RX0 89 "HissHorn$Blame" "found" "I" ∈ wsX0_fewest := (List.mem_cons_of_mem _ (List.mem_append_left _ (List.mem_append_left _ (List.mem_append_left _ (List.mem_append_left _ (List.mem_append_left _ (List.mem_append_left _ (List.mem_of_getElem? (i := 18) rfl))))))))
def LX0_fewest_9_80  : Nat → Int32 → SX → Option (Int32 × SX)
  | 0, _, _ => none
  | n + 1, z1, u => (if (u.1 10) < z1 then (some ((-1), u)) else ((rX0chooseg 16 0 0 z1 0 u).bind fun q => match q with | (r13, u14) => (if r13 = 0 then ((LX0_fewest_9_80 n) (z1 + 1) u14) else (some (u14.1 28, u14)))))
def GX0_fewest_9_58  (u : SX) : Option (Int32 × SX) := ((fX0_covers_9 ((1 <<< ((u.1 10) &&& 31)) - 1) u).bind fun q => match q with | (r10, u11) => (if r10 = 0 then (some ((-1), u11)) else (LX0_fewest_9_80  5000 0 u11)))
def fX0_fewest_9  (u : SX) : Option (Int32 × SX) := (lt (sI u 26 0) fun u1 => (lt (sI u1 27 0) fun u3 => (LX0_fewest_9_12 GX0_fewest_9_58 5000 0 u3)))
set_option maxHeartbeats 4000000 in
set_option maxRecDepth 100000 in
theorem wGX0_fewest_9_52 {p : Program} {l : Launch} {e : Env} {s : State} {m : MethodId} {args : Array Value} {below : List Frame} {meth : Method} {c : Code} {D : va_G} {cy : Nat → ClassId} {ad st : Nat → Nat} (C : Cx RX0 cX0_fewest 2 (some .int) wsX0_fewest p s m args meth c) (hK : Ky D [(cy 0, .int), (cy 1, .long), (cy 2, .boolean), (cy 3, .byte), (cy 4, .object "HissHorn$Text")] st s) (hJ : JX ad st) {r : Int32} {u' : SX} {k12 : Int32 → SX → Option (Int32 × SX)} (hk12 : ∀ (z1 : Int32) (u : SX) (H : Heap) (locs : List Loc) (ls : Array Slot), k12 z1 u = some (r, u') → va_P D vwCl (VX cy ad st u) H → va_S (Ax (AX ad) s.heap.size) s.heap H locs → lv_has ls 2 [(0, .ref (ad 9)), (1, .int z1)] → W p l e rmX0_fewest_9 s m args below meth c H locs 0 0 (MQ below (Qi D (VX cy ad st) (AX ad) s.heap.size r u') args s 0 0 (Ax (AX ad) s.heap.size)) (F0 m 12 ls [])) (z1 : Int32) (u : SX) (H : Heap) (locs : List Loc) (ls : Array Slot) (h : GX0_fewest_9_52 k12 z1 u = some (r, u')) (hP : va_P D vwCl (VX cy ad st u) H) (hS : va_S (Ax (AX ad) s.heap.size) s.heap H locs) (hl : lv_has ls 2 [(0, .ref (ad 9)), (1, .int z1)]) : W p l e rmX0_fewest_9 s m args below meth c H locs 0 0 (MQ below (Qi D (VX cy ad st) (AX ad) s.heap.size r u') args s 0 0 (Ax (AX ad) s.heap.size)) (F0 m 52 ls []) := by
  unfold GX0_fewest_9_52 at h
  refine lv_iinc (v := z1 + 1) (lv' := [(1, .int (z1 + 1)), (0, .ref (ad 9))]) C.1 C.2.1 dX0_fewest_52 hl (k := 1) rfl rfl (by decide) rfl (fun ls hl => ?_)
  replace hl := lv_sub (l' := [(0, .ref (ad 9)), (1, .int (z1 + 1))]) hl [1, 0] rfl
  refine lv_goto (tgt := 12) C.1 C.2.1 dX0_fewest_55 (by decide) ?_
  exact hk12 _ _ _ _ _ h hP hS hl
set_option maxHeartbeats 4000000 in
set_option maxRecDepth 100000 in
theorem wGX0_fewest_9_47 {p : Program} {l : Launch} {e : Env} {s : State} {m : MethodId} {args : Array Value} {below : List Frame} {meth : Method} {c : Code} {D : va_G} {cy : Nat → ClassId} {ad st : Nat → Nat} (C : Cx RX0 cX0_fewest 2 (some .int) wsX0_fewest p s m args meth c) (hK : Ky D [(cy 0, .int), (cy 1, .long), (cy 2, .boolean), (cy 3, .byte), (cy 4, .object "HissHorn$Text")] st s) (hJ : JX ad st) {r : Int32} {u' : SX} {k12 : Int32 → SX → Option (Int32 × SX)} (hk12 : ∀ (z1 : Int32) (u : SX) (H : Heap) (locs : List Loc) (ls : Array Slot), k12 z1 u = some (r, u') → va_P D vwCl (VX cy ad st u) H → va_S (Ax (AX ad) s.heap.size) s.heap H locs → lv_has ls 2 [(0, .ref (ad 9)), (1, .int z1)] → W p l e rmX0_fewest_9 s m args below meth c H locs 0 0 (MQ below (Qi D (VX cy ad st) (AX ad) s.heap.size r u') args s 0 0 (Ax (AX ad) s.heap.size)) (F0 m 12 ls [])) (z1 : Int32) (u : SX) (H : Heap) (locs : List Loc) (ls : Array Slot) (h : GX0_fewest_9_47 k12 z1 u = some (r, u')) (hP : va_P D vwCl (VX cy ad st u) H) (hS : va_S (Ax (AX ad) s.heap.size) s.heap H locs) (hl : lv_has ls 2 [(0, .ref (ad 9)), (1, .int z1)]) : W p l e rmX0_fewest_9 s m args below meth c H locs 0 0 (MQ below (Qi D (VX cy ad st) (AX ad) s.heap.size r u') args s 0 0 (Ax (AX ad) s.heap.size)) (F0 m 47 ls []) := by
  unfold GX0_fewest_9_47 at h
  refine lv_aload_n C.1 C.2.1 dX0_fewest_47 rfl (lv_at hl 0 rfl) ?_
  refine lv_iload_n C.1 C.2.1 dX0_fewest_48 rfl (lv_at hl 1 rfl) ?_
  obtain ⟨⟨r6, u7⟩, hc8, h⟩ := bd_some h
  try dsimp only at h
  refine cg_v (As := [.int z1]) (rest := []) (AX_ge hJ) C hK hP hS (metX0_weigh_9 l D cy ad st hJ _ z1 hc8) (cwV 1 C.2.2.2.2.2.1 gX0_fewest_X0_weigh rfl rfl rfl (by decide +kernel) ⟨(Nat.le_of_ble_eq_true rfl), (Nat.le_of_ble_eq_true rfl)⟩) 9 0 rfl rfl rfl hl.1 rfl (Nat.le_of_ble_eq_true rfl) dX0_fewest_49 ⟨Nat.zero_le _, Nat.zero_le _⟩ (fun H locs hP hS => ?_)
  exact wGX0_fewest_9_52 C hK hJ hk12 _ _ _ _ _ h hP hS hl
set_option maxHeartbeats 4000000 in
set_option maxRecDepth 100000 in
theorem wLX0_fewest_9_12 {p : Program} {l : Launch} {e : Env} {s : State} {m : MethodId} {args : Array Value} {below : List Frame} {meth : Method} {c : Code} {D : va_G} {cy : Nat → ClassId} {ad st : Nat → Nat} (C : Cx RX0 cX0_fewest 2 (some .int) wsX0_fewest p s m args meth c) (hK : Ky D [(cy 0, .int), (cy 1, .long), (cy 2, .boolean), (cy 3, .byte), (cy 4, .object "HissHorn$Text")] st s) (hJ : JX ad st) {r : Int32} {u' : SX} {k58 : SX → Option (Int32 × SX)} (hk58 : ∀  (u : SX) (H : Heap) (locs : List Loc) (ls : Array Slot), k58 u = some (r, u') → va_P D vwCl (VX cy ad st u) H → va_S (Ax (AX ad) s.heap.size) s.heap H locs → lv_has ls 2 [(0, .ref (ad 9))] → W p l e rmX0_fewest_9 s m args below meth c H locs 0 0 (MQ below (Qi D (VX cy ad st) (AX ad) s.heap.size r u') args s 0 0 (Ax (AX ad) s.heap.size)) (F0 m 58 ls [])) : ∀ (n : Nat) (z1 : Int32) (u : SX) (H : Heap) (locs : List Loc) (ls : Array Slot), LX0_fewest_9_12 k58 n z1 u = some (r, u') → va_P D vwCl (VX cy ad st u) H → va_S (Ax (AX ad) s.heap.size) s.heap H locs → lv_has ls 2 [(0, .ref (ad 9)), (1, .int z1)] → W p l e rmX0_fewest_9 s m args below meth c H locs 0 0 (MQ below (Qi D (VX cy ad st) (AX ad) s.heap.size r u') args s 0 0 (Ax (AX ad) s.heap.size)) (F0 m 12 ls []) := by
  intro n
  induction n with
  | zero =>
    intro z1 u H locs ls h
    exact absurd h (by intro q; cases q)
  | succ n ih =>
    intro z1 u H locs ls h hP hS hl
    rw [LX0_fewest_9_12] at h
    refine lv_iload_n C.1 C.2.1 dX0_fewest_12 rfl (lv_at hl 1 rfl) ?_
    refine lv_aload_n C.1 C.2.1 dX0_fewest_13 rfl (lv_at hl 0 rfl) ?_
    refine gX_9_readings C hX0_fewest_9_X0 hK hP mX0_fewest_9_3 dX0_fewest_14 ?_
    refine gX_7_known C hX0_fewest_9_X7 hK hP mX0_fewest_9_5 dX0_fewest_17 ?_
    refine lv_icmp_ge (tgt := 58) C.1 C.2.1 dX0_fewest_20 (by decide) (fun c20 => ?_) (fun c20 => ?_)
    · rw [if_pos c20] at h
      exact hk58 _ _ _ _ h hP hS (lv_sub hl [0] rfl)
    · rw [if_neg c20] at h
      refine lv_aload_n C.1 C.2.1 dX0_fewest_23 rfl (lv_at hl 0 rfl) ?_
      refine gX_9_readings C hX0_fewest_9_X0 hK hP mX0_fewest_9_3 dX0_fewest_24 ?_
      refine gX_7_lower C hX0_fewest_9_X7 hK hP mX0_fewest_9_6 dX0_fewest_27 ?_
      refine lv_iload_n C.1 C.2.1 dX0_fewest_30 rfl (lv_at hl 1 rfl) ?_
      obtain ⟨hg5, h⟩ := gd_some h
      refine lX_38 C hK hP hg5 dX0_fewest_31 ?_
      refine lv_if_gt (tgt := 47) C.1 C.2.1 dX0_fewest_32 (by decide) (fun c32 => ?_) (fun c32 => ?_)
      · rw [if_pos c32] at h
        exact wGX0_fewest_9_47 C hK hJ ih _ _ _ _ _ h hP hS hl
      · rw [if_neg c32] at h
        refine lv_aload_n C.1 C.2.1 dX0_fewest_35 rfl (lv_at hl 0 rfl) ?_
        refine gX_9_readings C hX0_fewest_9_X0 hK hP mX0_fewest_9_3 dX0_fewest_36 ?_
        refine gX_7_upper C hX0_fewest_9_X7 hK hP mX0_fewest_9_7 dX0_fewest_39 ?_
        refine lv_iload_n C.1 C.2.1 dX0_fewest_42 rfl (lv_at hl 1 rfl) ?_
        obtain ⟨hg9, h⟩ := gd_some h
        refine lX_39 C hK hP hg9 dX0_fewest_43 ?_
        refine lv_if_ge (tgt := 52) C.1 C.2.1 dX0_fewest_44 (by decide) (fun c44 => ?_) (fun c44 => ?_)
        · rw [if_pos c44] at h
          exact wGX0_fewest_9_52 C hK hJ ih _ _ _ _ _ h hP hS hl
        · rw [if_neg c44] at h
          exact wGX0_fewest_9_47 C hK hJ ih _ _ _ _ _ h hP hS hl
set_option maxHeartbeats 4000000 in
set_option maxRecDepth 100000 in
theorem wLX0_fewest_9_80 {p : Program} {l : Launch} {e : Env} {s : State} {m : MethodId} {args : Array Value} {below : List Frame} {meth : Method} {c : Code} {D : va_G} {cy : Nat → ClassId} {ad st : Nat → Nat} (C : Cx RX0 cX0_fewest 2 (some .int) wsX0_fewest p s m args meth c) (hK : Ky D [(cy 0, .int), (cy 1, .long), (cy 2, .boolean), (cy 3, .byte), (cy 4, .object "HissHorn$Text")] st s) (hJ : JX ad st) {r : Int32} {u' : SX}   : ∀ (n : Nat) (z1 : Int32) (u : SX) (H : Heap) (locs : List Loc) (ls : Array Slot), LX0_fewest_9_80  n z1 u = some (r, u') → va_P D vwCl (VX cy ad st u) H → va_S (Ax (AX ad) s.heap.size) s.heap H locs → lv_has ls 2 [(0, .ref (ad 9)), (1, .int z1)] → W p l e rmX0_fewest_9 s m args below meth c H locs 0 0 (MQ below (Qi D (VX cy ad st) (AX ad) s.heap.size r u') args s 0 0 (Ax (AX ad) s.heap.size)) (F0 m 80 ls []) := by
  intro n
  induction n with
  | zero =>
    intro z1 u H locs ls h
    exact absurd h (by intro q; cases q)
  | succ n ih =>
    intro z1 u H locs ls h hP hS hl
    rw [LX0_fewest_9_80] at h
    refine lv_iload_n C.1 C.2.1 dX0_fewest_80 rfl (lv_at hl 1 rfl) ?_
    refine lv_aload_n C.1 C.2.1 dX0_fewest_81 rfl (lv_at hl 0 rfl) ?_
    refine gX_9_parts C hX0_fewest_9_X0 hK hP mX0_fewest_9_8 dX0_fewest_82 ?_
    refine gX_6_known C hX0_fewest_9_X6 hK hP mX0_fewest_9_10 dX0_fewest_85 ?_
    refine lv_icmp_gt (tgt := 112) C.1 C.2.1 dX0_fewest_88 (by decide) (fun c88 => ?_) (fun c88 => ?_)
    · rw [if_pos c88] at h
      refine lv_iconst (v := (-1)) C.1 C.2.1 dX0_fewest_112 (by decide) ?_
      cases h
      exact rt_i C hP hS dX0_fewest_113
    · rw [if_neg c88] at h
      refine lv_aload_n C.1 C.2.1 dX0_fewest_91 rfl (lv_at hl 0 rfl) ?_
      refine lv_iconst (v := 0) C.1 C.2.1 dX0_fewest_92 (by decide) ?_
      refine lv_iload_n C.1 C.2.1 dX0_fewest_93 rfl (lv_at hl 1 rfl) ?_
      refine lv_iconst (v := 0) C.1 C.2.1 dX0_fewest_94 (by decide) ?_
      obtain ⟨⟨r13, u14⟩, hc15, h⟩ := bd_some h
      try dsimp only at h
      refine cg_i (As := [.int 0, .int z1, .int 0]) (rest := []) (AX_ge hJ) C hK hP hS ((hRX0chooseg_all l D cy ad st hJ 16) _ 0 z1 0 _ _ _ hc15) (cwV 3 C.2.2.2.2.2.1 gX0_fewest_X0_choose rfl rfl rfl (by decide +kernel) ⟨(Nat.le_of_ble_eq_true rfl), (Nat.le_of_ble_eq_true rfl)⟩) 9 0 rfl rfl rfl hl.1 rfl (Nat.le_of_ble_eq_true rfl) dX0_fewest_95 ⟨Nat.zero_le _, Nat.zero_le _⟩ (fun H locs hP hS => ?_)
      refine lv_if_eq (tgt := 106) C.1 C.2.1 dX0_fewest_98 (by decide) (fun c98 => ?_) (fun c98 => ?_)
      · rw [if_pos c98] at h
        refine lv_iinc (v := z1 + 1) (lv' := [(1, .int (z1 + 1)), (0, .ref (ad 9))]) C.1 C.2.1 dX0_fewest_106 hl (k := 1) rfl rfl (by decide) rfl (fun ls hl => ?_)
        replace hl := lv_sub (l' := [(0, .ref (ad 9)), (1, .int (z1 + 1))]) hl [1, 0] rfl
        refine lv_goto (tgt := 80) C.1 C.2.1 dX0_fewest_109 (by decide) ?_
        exact ih _ _ _ _ _ h hP hS hl
      · rw [if_neg c98] at h
        refine lv_aload_n C.1 C.2.1 dX0_fewest_101 rfl (lv_at hl 0 rfl) ?_
        refine gX_9_found C hX0_fewest_9_X0 hK hP mX0_fewest_9_11 dX0_fewest_102 ?_
        cases h
        exact rt_i C hP hS dX0_fewest_105
set_option maxHeartbeats 4000000 in
set_option maxRecDepth 100000 in
theorem wGX0_fewest_9_58 {p : Program} {l : Launch} {e : Env} {s : State} {m : MethodId} {args : Array Value} {below : List Frame} {meth : Method} {c : Code} {D : va_G} {cy : Nat → ClassId} {ad st : Nat → Nat} (C : Cx RX0 cX0_fewest 2 (some .int) wsX0_fewest p s m args meth c) (hK : Ky D [(cy 0, .int), (cy 1, .long), (cy 2, .boolean), (cy 3, .byte), (cy 4, .object "HissHorn$Text")] st s) (hJ : JX ad st) {r : Int32} {u' : SX}   (u : SX) (H : Heap) (locs : List Loc) (ls : Array Slot) (h : GX0_fewest_9_58  u = some (r, u')) (hP : va_P D vwCl (VX cy ad st u) H) (hS : va_S (Ax (AX ad) s.heap.size) s.heap H locs) (hl : lv_has ls 2 [(0, .ref (ad 9))]) : W p l e rmX0_fewest_9 s m args below meth c H locs 0 0 (MQ below (Qi D (VX cy ad st) (AX ad) s.heap.size r u') args s 0 0 (Ax (AX ad) s.heap.size)) (F0 m 58 ls []) := by
  unfold GX0_fewest_9_58 at h
  refine lv_aload_n C.1 C.2.1 dX0_fewest_58 rfl (lv_at hl 0 rfl) ?_
  refine lv_iconst (v := 1) C.1 C.2.1 dX0_fewest_59 (by decide) ?_
  refine lv_aload_n C.1 C.2.1 dX0_fewest_60 rfl (lv_at hl 0 rfl) ?_
  refine gX_9_parts C hX0_fewest_9_X0 hK hP mX0_fewest_9_8 dX0_fewest_61 ?_
  refine gX_6_known C hX0_fewest_9_X6 hK hP mX0_fewest_9_10 dX0_fewest_64 ?_
  refine lv_ishl C.1 C.2.1 dX0_fewest_67 ?_
  refine lv_iconst (v := 1) C.1 C.2.1 dX0_fewest_68 (by decide) ?_
  refine lv_isub C.1 C.2.1 dX0_fewest_69 ?_
  obtain ⟨⟨r10, u11⟩, hc12, h⟩ := bd_some h
  try dsimp only at h
  refine cg_i (As := [.int ((1 <<< ((u.1 10) &&& 31)) - 1)]) (rest := []) (AX_ge hJ) C hK hP hS (metX0_covers_9 l D cy ad st hJ _ ((1 <<< ((u.1 10) &&& 31)) - 1) hc12) (cwV 1 C.2.2.2.2.2.1 gX0_fewest_X0_covers rfl rfl rfl (by decide +kernel) ⟨(Nat.le_of_ble_eq_true rfl), (Nat.le_of_ble_eq_true rfl)⟩) 9 0 rfl rfl rfl hl.1 rfl (Nat.le_of_ble_eq_true rfl) dX0_fewest_70 ⟨Nat.zero_le _, Nat.zero_le _⟩ (fun H locs hP hS => ?_)
  refine lv_if_ne (tgt := 78) C.1 C.2.1 dX0_fewest_73 (by decide) (fun c73 => ?_) (fun c73 => ?_)
  · rw [if_neg c73] at h
    refine lv_iconst (v := 0) C.1 C.2.1 dX0_fewest_78 (by decide) ?_
    refine lv_istore_n (lv' := [(1, .int 0), (0, .ref (ad 9))]) C.1 C.2.1 dX0_fewest_79 rfl hl (by decide) rfl (fun ls hl => ?_)
    replace hl := lv_sub (l' := [(0, .ref (ad 9)), (1, .int 0)]) hl [1, 0] rfl
    exact wLX0_fewest_9_80 C hK hJ  5000 _ _ _ _ _ h hP hS hl
  · rw [if_pos c73] at h
    refine lv_iconst (v := (-1)) C.1 C.2.1 dX0_fewest_76 (by decide) ?_
    cases h
    exact rt_i C hP hS dX0_fewest_77
set_option maxHeartbeats 4000000 in
set_option maxRecDepth 100000 in
theorem wX0_fewest_9 {p : Program} {l : Launch} {e : Env} {s : State} {m : MethodId} {args : Array Value} {below : List Frame} {meth : Method} {c : Code} {D : va_G} {cy : Nat → ClassId} {ad st : Nat → Nat} (C : Cx RX0 cX0_fewest 2 (some .int) wsX0_fewest p s m args meth c) (hK : Ky D [(cy 0, .int), (cy 1, .long), (cy 2, .boolean), (cy 3, .byte), (cy 4, .object "HissHorn$Text")] st s) (hJ : JX ad st)  {u : SX} {r : Int32} {u' : SX} {H : Heap} {locs : List Loc} {ls : Array Slot} (h : fX0_fewest_9  u = some (r, u')) (hP : va_P D vwCl (VX cy ad st u) H) (hS : va_S (Ax (AX ad) s.heap.size) s.heap H locs) (hl : lv_has ls 2 [(0, .ref (ad 9))]) : W p l e rmX0_fewest_9 s m args below meth c H locs 0 0 (MQ below (Qi D (VX cy ad st) (AX ad) s.heap.size r u') args s 0 0 (Ax (AX ad) s.heap.size)) (F0 m 0 ls []) := by
  unfold fX0_fewest_9 at h
  refine lv_aload_n C.1 C.2.1 dX0_fewest_0 rfl (lv_at hl 0 rfl) ?_
  refine lv_iconst (v := 0) C.1 C.2.1 dX0_fewest_1 (by decide) ?_
  refine pX_9_lacking C hX0_fewest_9_X0 hK hP hJ hS mX0_fewest_9_1 dX0_fewest_2 (fun H locs hP hS => ?_)
  obtain ⟨u1, hu2, h⟩ := lt_some h
  rw [← hu2] at hP
  refine lv_aload_n C.1 C.2.1 dX0_fewest_5 rfl (lv_at hl 0 rfl) ?_
  refine lv_iconst (v := 0) C.1 C.2.1 dX0_fewest_6 (by decide) ?_
  refine pX_9_lastLacking C hX0_fewest_9_X0 hK hP hJ hS mX0_fewest_9_2 dX0_fewest_7 (fun H locs hP hS => ?_)
  obtain ⟨u3, hu4, h⟩ := lt_some h
  rw [← hu4] at hP
  refine lv_iconst (v := 0) C.1 C.2.1 dX0_fewest_10 (by decide) ?_
  refine lv_istore_n (lv' := [(1, .int 0), (0, .ref (ad 9))]) C.1 C.2.1 dX0_fewest_11 rfl hl (by decide) rfl (fun ls hl => ?_)
  replace hl := lv_sub (l' := [(0, .ref (ad 9)), (1, .int 0)]) hl [1, 0] rfl
  exact wLX0_fewest_9_12 C hK hJ (wGX0_fewest_9_58 C hK hJ ) 5000 _ _ _ _ _ h hP hS hl
theorem metX0_fewest_9 (l : Launch) (D : va_G) (cy : Nat → ClassId) (ad st : Nat → Nat) (hJ : JX ad st) (sz : Nat)  {u : SX} {r : Int32} {u' : SX} (h : fX0_fewest_9  u = some (r, u')) : Met l yX0_fewest wsX0_fewest rmX0_fewest_9 (va_Pc [.ref (ad 9)] (Px D [(cy 0, .int), (cy 1, .long), (cy 2, .boolean), (cy 3, .byte), (cy 4, .object "HissHorn$Text")] st (VX cy ad st) sz u)) (Qi D (VX cy ad st) (AX ad) sz r u') 0 0 (Ax (AX ad) sz) := by
  refine Met.ofW (cc := cX0_fewest) (maxL := 2) (ret := (some .int)) (by decide) rfl ?_
  intro p e s m args below meth c s₁ B hml hv
  obtain ⟨rfl, hsz, hP, hK⟩ := hv
  subst hsz
  have C : Cx RX0 cX0_fewest 2 (some .int) wsX0_fewest p s m _ meth c := ⟨B.exec, B.bytes, hml, B.returns, findClass_of_methodNamed B.named, atoms_spec (ws := wsX0_fewest) B.pre, B.notSynchronized⟩
  have hl := lv_entry ([.ref (ad 9)]) (n := 2) (Nat.le_of_ble_eq_true rfl)
  rw [lg_entry_eq]
  exact wX0_fewest_9 C hK hJ h hP va_S.rf hl

theorem zdX11_sets_0 : (and (and (and (and (zk cX11_sets 0 (.aload_n 0) 1) (zk cX11_sets 1 (.iload_n 1) 1)) (and (zk cX11_sets 2 (.invokevirtual 174) 3) (zk cX11_sets 5 (.ifCond .ne 5) 3))) (and (and (zk cX11_sets 10 (.aload_n 0) 1) (zk cX11_sets 11 (.getfield 58) 3)) (zk cX11_sets 14 (.iload_n 1) 1))) (and (and (and (zk cX11_sets 15 (.invokevirtual 214) 3) (zk cX11_sets 18 (.aload_n 0) 1)) (and (zk cX11_sets 19 (.getfield 76) 3) (zk cX11_sets 22 (.invokevirtual 248) 3))) (and (and (zk cX11_sets 25 (.ireturn) 1) (zk cX11_sets 8 (.iconst (-1)) 1)) (zk cX11_sets 9 (.ireturn) 1)))) = true := by decide +kernel
theorem dX11_sets_0 : decode cX11_sets 0 = .ok (.aload_n 0, 1) := zk_of (zk_l (zk_l (zk_l (zk_l zdX11_sets_0))))
theorem dX11_sets_1 : decode cX11_sets 1 = .ok (.iload_n 1, 1) := zk_of (zk_r (zk_l (zk_l (zk_l zdX11_sets_0))))
theorem dX11_sets_2 : decode cX11_sets 2 = .ok (.invokevirtual 174, 3) := zk_of (zk_l (zk_r (zk_l (zk_l zdX11_sets_0))))
theorem dX11_sets_5 : decode cX11_sets 5 = .ok (.ifCond .ne 5, 3) := zk_of (zk_r (zk_r (zk_l (zk_l zdX11_sets_0))))
theorem dX11_sets_10 : decode cX11_sets 10 = .ok (.aload_n 0, 1) := zk_of (zk_l (zk_l (zk_r (zk_l zdX11_sets_0))))
theorem dX11_sets_11 : decode cX11_sets 11 = .ok (.getfield 58, 3) := zk_of (zk_r (zk_l (zk_r (zk_l zdX11_sets_0))))
theorem dX11_sets_14 : decode cX11_sets 14 = .ok (.iload_n 1, 1) := zk_of (zk_r (zk_r (zk_l zdX11_sets_0)))
theorem dX11_sets_15 : decode cX11_sets 15 = .ok (.invokevirtual 214, 3) := zk_of (zk_l (zk_l (zk_l (zk_r zdX11_sets_0))))
theorem dX11_sets_18 : decode cX11_sets 18 = .ok (.aload_n 0, 1) := zk_of (zk_r (zk_l (zk_l (zk_r zdX11_sets_0))))
theorem dX11_sets_19 : decode cX11_sets 19 = .ok (.getfield 76, 3) := zk_of (zk_l (zk_r (zk_l (zk_r zdX11_sets_0))))
theorem dX11_sets_22 : decode cX11_sets 22 = .ok (.invokevirtual 248, 3) := zk_of (zk_r (zk_r (zk_l (zk_r zdX11_sets_0))))
theorem dX11_sets_25 : decode cX11_sets 25 = .ok (.ireturn, 1) := zk_of (zk_l (zk_l (zk_r (zk_r zdX11_sets_0))))
theorem dX11_sets_8 : decode cX11_sets 8 = .ok (.iconst (-1), 1) := zk_of (zk_r (zk_l (zk_r (zk_r zdX11_sets_0))))
theorem dX11_sets_9 : decode cX11_sets 9 = .ok (.ireturn, 1) := zk_of (zk_r (zk_r (zk_r zdX11_sets_0)))
set_option maxRecDepth 20000 in
theorem ggX11_sets_X11_isDay : GoodIn wsX11_sets wsX11_isDay := ggi (fun w h => List.mem_cons_of_mem _ (List.mem_append_left _ (List.mem_append_left _ (List.mem_append_left _ (List.mem_append_left _ (List.mem_append_left _ (List.mem_append_left _ (List.mem_append_right _ (List.mem_append_left _ h))))))))) gs_X11_isDay
set_option maxRecDepth 20000 in
theorem gX11_sets_X11_isDay : GoodIn wsX11_sets (wsV RX11 174 RX11 yX11_isDay wsX11_isDay) := goodIn_app (goodIn_of _ (by decide +kernel)) ggX11_sets_X11_isDay
set_option maxRecDepth 20000 in
theorem ggX11_sets_X7_recall : GoodIn wsX11_sets wsX7_recall := ggi (fun w h => List.mem_cons_of_mem _ (List.mem_append_left _ (List.mem_append_left _ (List.mem_append_left _ (List.mem_append_left _ (List.mem_append_left _ (List.mem_append_left _ (List.mem_append_right _ (List.mem_append_right _ (List.mem_append_left _ h)))))))))) gs_X7_recall
set_option maxRecDepth 20000 in
theorem gX11_sets_X7_recall : GoodIn wsX11_sets (wsV RX11 214 RX7 yX7_recall wsX7_recall) := goodIn_app (goodIn_of _ (by decide +kernel)) ggX11_sets_X7_recall
set_option maxRecDepth 20000 in
theorem ggX11_sets_X0_fewest : GoodIn wsX11_sets wsX0_fewest := ggi (fun w h => List.mem_cons_of_mem _ (List.mem_append_left _ (List.mem_append_left _ (List.mem_append_left _ (List.mem_append_left _ (List.mem_append_left _ (List.mem_append_left _ (List.mem_append_right _ (List.mem_append_right _ (List.mem_append_right _ h)))))))))) gs_X0_fewest
set_option maxRecDepth 20000 in
theorem gX11_sets_X0_fewest : GoodIn wsX11_sets (wsV RX11 248 RX0 yX0_fewest wsX0_fewest) := goodIn_app (goodIn_of _ (by decide +kernel)) ggX11_sets_X0_fewest
/-- HissHorn.sets(I)I of cell 0 -/
def rmX11_sets_0 : Room := { frames := 19, cells := 0, slots := 0, locals := 1094 }
theorem hX11_sets_0_X11 : ∀ w ∈ u_ws RX11 TX11 13, w ∈ wsX11_sets := fun w h => (List.mem_cons_of_mem _ (List.mem_append_left _ (List.mem_append_left _ (List.mem_append_left _ (List.mem_append_left _ (List.mem_append_left _ (List.mem_append_right _ h)))))))
theorem mX11_sets_0_1 : Cond.fieldLink RX11 58 "HissHorn" "readings" "LHissHorn$Readings;" ∈ wsX11_sets := (List.mem_cons_of_mem _ (List.mem_append_left _ (List.mem_append_left _ (List.mem_append_left _ (List.mem_append_left _ (List.mem_append_left _ (List.mem_append_left _ (List.mem_append_left _ (List.mem_of_getElem? (i := 12) rfl)))))))))
theorem mX11_sets_0_2 : Cond.fieldLink RX11 76 "HissHorn" "blame" "LHissHorn$Blame;" ∈ wsX11_sets := (List.mem_cons_of_mem _ (List.mem_append_left _ (List.mem_append_left _ (List.mem_append_left _ (List.mem_append_left _ (List.mem_append_left _ (List.mem_append_left _ (List.mem_append_left _ (List.mem_of_getElem? (i := 13) rfl)))))))))
def fX11_sets_0 (x1 : Int32) (u : SX) : Option (Int32 × SX) := ((fX11_isDay_0 x1 u).bind fun q => match q with | (r1, u2) => (if r1 = 0 then (some ((-1), u2)) else ((fX7_recall_7 x1 u2).bind fun q => match q with | (r4, u5) => ((fX0_fewest_9  u5).bind fun q => match q with | (r7, u8) => (some (r7, u8))))))
set_option maxHeartbeats 4000000 in
set_option maxRecDepth 100000 in
theorem wX11_sets_0 {p : Program} {l : Launch} {e : Env} {s : State} {m : MethodId} {args : Array Value} {below : List Frame} {meth : Method} {c : Code} {D : va_G} {cy : Nat → ClassId} {ad st : Nat → Nat} (C : Cx RX11 cX11_sets 2 (some .int) wsX11_sets p s m args meth c) (hK : Ky D [(cy 0, .int), (cy 1, .long), (cy 2, .boolean), (cy 3, .byte), (cy 4, .object "HissHorn$Text")] st s) (hJ : JX ad st) (x1 : Int32) {u : SX} {r : Int32} {u' : SX} {H : Heap} {locs : List Loc} {ls : Array Slot} (h : fX11_sets_0 x1 u = some (r, u')) (hP : va_P D vwCl (VX cy ad st u) H) (hS : va_S (Ax (AX ad) s.heap.size) s.heap H locs) (hl : lv_has ls 2 [(0, .ref (ad 0)), (1, .int x1)]) : W p l e rmX11_sets_0 s m args below meth c H locs 0 0 (MQ below (Qi D (VX cy ad st) (AX ad) s.heap.size r u') args s 0 0 (Ax (AX ad) s.heap.size)) (F0 m 0 ls []) := by
  unfold fX11_sets_0 at h
  refine lv_aload_n C.1 C.2.1 dX11_sets_0 rfl (lv_at hl 0 rfl) ?_
  refine lv_iload_n C.1 C.2.1 dX11_sets_1 rfl (lv_at hl 1 rfl) ?_
  obtain ⟨⟨r1, u2⟩, hc3, h⟩ := bd_some h
  try dsimp only at h
  refine cg_i (As := [.int x1]) (rest := []) (AX_ge hJ) C hK hP hS (metX11_isDay_0 l D cy ad st hJ _ x1 hc3) (cwV 1 C.2.2.2.2.2.1 gX11_sets_X11_isDay rfl rfl rfl (by decide +kernel) ⟨(Nat.le_of_ble_eq_true rfl), (Nat.le_of_ble_eq_true rfl)⟩) 0 11 rfl rfl rfl hl.1 rfl (Nat.le_of_ble_eq_true rfl) dX11_sets_2 ⟨Nat.zero_le _, Nat.zero_le _⟩ (fun H locs hP hS => ?_)
  refine lv_if_ne (tgt := 10) C.1 C.2.1 dX11_sets_5 (by decide) (fun c5 => ?_) (fun c5 => ?_)
  · rw [if_neg c5] at h
    refine lv_aload_n C.1 C.2.1 dX11_sets_10 rfl (lv_at hl 0 rfl) ?_
    refine gX_0_readings C hX11_sets_0_X11 hK hP mX11_sets_0_1 dX11_sets_11 ?_
    refine lv_iload_n C.1 C.2.1 dX11_sets_14 rfl (lv_at hl 1 rfl) ?_
    obtain ⟨⟨r4, u5⟩, hc6, h⟩ := bd_some h
    try dsimp only at h
    refine cg_v (As := [.int x1]) (rest := []) (AX_ge hJ) C hK hP hS (metX7_recall_7 l D cy ad st hJ _ x1 hc6) (cwV 1 C.2.2.2.2.2.1 gX11_sets_X7_recall rfl rfl rfl (by decide +kernel) ⟨(Nat.le_of_ble_eq_true rfl), (Nat.le_of_ble_eq_true rfl)⟩) 7 7 rfl rfl rfl hl.1 rfl (Nat.le_of_ble_eq_true rfl) dX11_sets_15 ⟨Nat.zero_le _, Nat.zero_le _⟩ (fun H locs hP hS => ?_)
    refine lv_aload_n C.1 C.2.1 dX11_sets_18 rfl (lv_at hl 0 rfl) ?_
    refine gX_0_blame C hX11_sets_0_X11 hK hP mX11_sets_0_2 dX11_sets_19 ?_
    obtain ⟨⟨r7, u8⟩, hc9, h⟩ := bd_some h
    try dsimp only at h
    refine cg_i (As := []) (rest := []) (AX_ge hJ) C hK hP hS (metX0_fewest_9 l D cy ad st hJ _  hc9) (cwV 0 C.2.2.2.2.2.1 gX11_sets_X0_fewest rfl rfl rfl (by decide +kernel) ⟨(Nat.le_of_ble_eq_true rfl), (Nat.le_of_ble_eq_true rfl)⟩) 9 0 rfl rfl rfl hl.1 rfl (Nat.le_of_ble_eq_true rfl) dX11_sets_22 ⟨Nat.zero_le _, Nat.zero_le _⟩ (fun H locs hP hS => ?_)
    cases h
    exact rt_i C hP hS dX11_sets_25
  · rw [if_pos c5] at h
    refine lv_iconst (v := (-1)) C.1 C.2.1 dX11_sets_8 (by decide) ?_
    cases h
    exact rt_i C hP hS dX11_sets_9
theorem metX11_sets_0 (l : Launch) (D : va_G) (cy : Nat → ClassId) (ad st : Nat → Nat) (hJ : JX ad st) (sz : Nat) (x1 : Int32) {u : SX} {r : Int32} {u' : SX} (h : fX11_sets_0 x1 u = some (r, u')) : Met l yX11_sets wsX11_sets rmX11_sets_0 (va_Pc [.ref (ad 0), .int x1] (Px D [(cy 0, .int), (cy 1, .long), (cy 2, .boolean), (cy 3, .byte), (cy 4, .object "HissHorn$Text")] st (VX cy ad st) sz u)) (Qi D (VX cy ad st) (AX ad) sz r u') 0 0 (Ax (AX ad) sz) := by
  refine Met.ofW (cc := cX11_sets) (maxL := 2) (ret := (some .int)) (by decide) rfl ?_
  intro p e s m args below meth c s₁ B hml hv
  obtain ⟨rfl, hsz, hP, hK⟩ := hv
  subst hsz
  have C : Cx RX11 cX11_sets 2 (some .int) wsX11_sets p s m _ meth c := ⟨B.exec, B.bytes, hml, B.returns, findClass_of_methodNamed B.named, atoms_spec (ws := wsX11_sets) B.pre, B.notSynchronized⟩
  have hl := lv_entry ([.ref (ad 0), .int x1]) (n := 2) (Nat.le_of_ble_eq_true rfl)
  rw [lg_entry_eq]
  exact wX11_sets_0 C hK hJ x1 h hP va_S.rf hl

theorem zdX3_add_0 : (and (and (and (and (and (zk cX3_add 0 (.aload_n 0) 1) (zk cX3_add 1 (.getfield 53) 3)) (and (zk cX3_add 4 (.bipush 10) 2) (zk cX3_add 6 (.if_icmp .lt 5) 3))) (and (and (zk cX3_add 11 (.aload_n 0) 1) (zk cX3_add 12 (.getfield 9) 3)) (and (zk cX3_add 15 (.aload_n 0) 1) (zk cX3_add 16 (.getfield 53) 3)))) (and (and (and (zk cX3_add 19 (.iload_n 1) 1) (zk cX3_add 20 (.iastore) 1)) (and (zk cX3_add 21 (.aload_n 0) 1) (zk cX3_add 22 (.getfield 15) 3))) (and (and (zk cX3_add 25 (.aload_n 0) 1) (zk cX3_add 26 (.getfield 53) 3)) (and (zk cX3_add 29 (.iload_n 2) 1) (zk cX3_add 30 (.iastore) 1))))) (and (and (and (and (zk cX3_add 31 (.aload_n 0) 1) (zk cX3_add 32 (.getfield 18) 3)) (and (zk cX3_add 35 (.aload_n 0) 1) (zk cX3_add 36 (.getfield 53) 3))) (and (and (zk cX3_add 39 (.iload_n 3) 1) (zk cX3_add 40 (.iastore) 1)) (and (zk cX3_add 41 (.aload_n 0) 1) (zk cX3_add 42 (.getfield 21) 3)))) (and (and (and (zk cX3_add 45 (.aload_n 0) 1) (zk cX3_add 46 (.getfield 53) 3)) (and (zk cX3_add 49 (.iload 4) 2) (zk cX3_add 51 (.iastore) 1))) (and (and (zk cX3_add 52 (.aload_n 0) 1) (zk cX3_add 53 (.getfield 24) 3)) (and (zk cX3_add 56 (.aload_n 0) 1) (zk cX3_add 57 (.getfield 53) 3)))))) = true := by decide +kernel
theorem dX3_add_0 : decode cX3_add 0 = .ok (.aload_n 0, 1) := zk_of (zk_l (zk_l (zk_l (zk_l (zk_l zdX3_add_0)))))
theorem dX3_add_1 : decode cX3_add 1 = .ok (.getfield 53, 3) := zk_of (zk_r (zk_l (zk_l (zk_l (zk_l zdX3_add_0)))))
theorem dX3_add_4 : decode cX3_add 4 = .ok (.bipush 10, 2) := zk_of (zk_l (zk_r (zk_l (zk_l (zk_l zdX3_add_0)))))
theorem dX3_add_6 : decode cX3_add 6 = .ok (.if_icmp .lt 5, 3) := zk_of (zk_r (zk_r (zk_l (zk_l (zk_l zdX3_add_0)))))
theorem dX3_add_11 : decode cX3_add 11 = .ok (.aload_n 0, 1) := zk_of (zk_l (zk_l (zk_r (zk_l (zk_l zdX3_add_0)))))
theorem dX3_add_12 : decode cX3_add 12 = .ok (.getfield 9, 3) := zk_of (zk_r (zk_l (zk_r (zk_l (zk_l zdX3_add_0)))))
theorem dX3_add_15 : decode cX3_add 15 = .ok (.aload_n 0, 1) := zk_of (zk_l (zk_r (zk_r (zk_l (zk_l zdX3_add_0)))))
theorem dX3_add_16 : decode cX3_add 16 = .ok (.getfield 53, 3) := zk_of (zk_r (zk_r (zk_r (zk_l (zk_l zdX3_add_0)))))
theorem dX3_add_19 : decode cX3_add 19 = .ok (.iload_n 1, 1) := zk_of (zk_l (zk_l (zk_l (zk_r (zk_l zdX3_add_0)))))
theorem dX3_add_20 : decode cX3_add 20 = .ok (.iastore, 1) := zk_of (zk_r (zk_l (zk_l (zk_r (zk_l zdX3_add_0)))))
theorem dX3_add_21 : decode cX3_add 21 = .ok (.aload_n 0, 1) := zk_of (zk_l (zk_r (zk_l (zk_r (zk_l zdX3_add_0)))))
theorem dX3_add_22 : decode cX3_add 22 = .ok (.getfield 15, 3) := zk_of (zk_r (zk_r (zk_l (zk_r (zk_l zdX3_add_0)))))
theorem dX3_add_25 : decode cX3_add 25 = .ok (.aload_n 0, 1) := zk_of (zk_l (zk_l (zk_r (zk_r (zk_l zdX3_add_0)))))
theorem dX3_add_26 : decode cX3_add 26 = .ok (.getfield 53, 3) := zk_of (zk_r (zk_l (zk_r (zk_r (zk_l zdX3_add_0)))))
theorem dX3_add_29 : decode cX3_add 29 = .ok (.iload_n 2, 1) := zk_of (zk_l (zk_r (zk_r (zk_r (zk_l zdX3_add_0)))))
theorem dX3_add_30 : decode cX3_add 30 = .ok (.iastore, 1) := zk_of (zk_r (zk_r (zk_r (zk_r (zk_l zdX3_add_0)))))
theorem dX3_add_31 : decode cX3_add 31 = .ok (.aload_n 0, 1) := zk_of (zk_l (zk_l (zk_l (zk_l (zk_r zdX3_add_0)))))
theorem dX3_add_32 : decode cX3_add 32 = .ok (.getfield 18, 3) := zk_of (zk_r (zk_l (zk_l (zk_l (zk_r zdX3_add_0)))))
theorem dX3_add_35 : decode cX3_add 35 = .ok (.aload_n 0, 1) := zk_of (zk_l (zk_r (zk_l (zk_l (zk_r zdX3_add_0)))))
theorem dX3_add_36 : decode cX3_add 36 = .ok (.getfield 53, 3) := zk_of (zk_r (zk_r (zk_l (zk_l (zk_r zdX3_add_0)))))
theorem dX3_add_39 : decode cX3_add 39 = .ok (.iload_n 3, 1) := zk_of (zk_l (zk_l (zk_r (zk_l (zk_r zdX3_add_0)))))
theorem dX3_add_40 : decode cX3_add 40 = .ok (.iastore, 1) := zk_of (zk_r (zk_l (zk_r (zk_l (zk_r zdX3_add_0)))))
theorem dX3_add_41 : decode cX3_add 41 = .ok (.aload_n 0, 1) := zk_of (zk_l (zk_r (zk_r (zk_l (zk_r zdX3_add_0)))))
theorem dX3_add_42 : decode cX3_add 42 = .ok (.getfield 21, 3) := zk_of (zk_r (zk_r (zk_r (zk_l (zk_r zdX3_add_0)))))
theorem dX3_add_45 : decode cX3_add 45 = .ok (.aload_n 0, 1) := zk_of (zk_l (zk_l (zk_l (zk_r (zk_r zdX3_add_0)))))
theorem dX3_add_46 : decode cX3_add 46 = .ok (.getfield 53, 3) := zk_of (zk_r (zk_l (zk_l (zk_r (zk_r zdX3_add_0)))))
theorem dX3_add_49 : decode cX3_add 49 = .ok (.iload 4, 2) := zk_of (zk_l (zk_r (zk_l (zk_r (zk_r zdX3_add_0)))))
theorem dX3_add_51 : decode cX3_add 51 = .ok (.iastore, 1) := zk_of (zk_r (zk_r (zk_l (zk_r (zk_r zdX3_add_0)))))
theorem dX3_add_52 : decode cX3_add 52 = .ok (.aload_n 0, 1) := zk_of (zk_l (zk_l (zk_r (zk_r (zk_r zdX3_add_0)))))
theorem dX3_add_53 : decode cX3_add 53 = .ok (.getfield 24, 3) := zk_of (zk_r (zk_l (zk_r (zk_r (zk_r zdX3_add_0)))))
theorem dX3_add_56 : decode cX3_add 56 = .ok (.aload_n 0, 1) := zk_of (zk_l (zk_r (zk_r (zk_r (zk_r zdX3_add_0)))))
theorem dX3_add_57 : decode cX3_add 57 = .ok (.getfield 53, 3) := zk_of (zk_r (zk_r (zk_r (zk_r (zk_r zdX3_add_0)))))
theorem zdX3_add_60 : (and (and (and (and (zk cX3_add 60 (.iconst (-1)) 1) (zk cX3_add 61 (.iastore) 1)) (and (zk cX3_add 62 (.aload_n 0) 1) (zk cX3_add 63 (.dup) 1))) (and (and (zk cX3_add 64 (.getfield 53) 3) (zk cX3_add 67 (.iconst 1) 1)) (and (zk cX3_add 68 (.iadd) 1) (zk cX3_add 69 (.putfield 53) 3)))) (and (and (and (zk cX3_add 72 (.aload_n 0) 1) (zk cX3_add 73 (.getfield 53) 3)) (and (zk cX3_add 76 (.iconst 1) 1) (zk cX3_add 77 (.isub) 1))) (and (and (zk cX3_add 78 (.ireturn) 1) (zk cX3_add 9 (.iconst (-1)) 1)) (zk cX3_add 10 (.ireturn) 1)))) = true := by decide +kernel
theorem dX3_add_60 : decode cX3_add 60 = .ok (.iconst (-1), 1) := zk_of (zk_l (zk_l (zk_l (zk_l zdX3_add_60))))
theorem dX3_add_61 : decode cX3_add 61 = .ok (.iastore, 1) := zk_of (zk_r (zk_l (zk_l (zk_l zdX3_add_60))))
theorem dX3_add_62 : decode cX3_add 62 = .ok (.aload_n 0, 1) := zk_of (zk_l (zk_r (zk_l (zk_l zdX3_add_60))))
theorem dX3_add_63 : decode cX3_add 63 = .ok (.dup, 1) := zk_of (zk_r (zk_r (zk_l (zk_l zdX3_add_60))))
theorem dX3_add_64 : decode cX3_add 64 = .ok (.getfield 53, 3) := zk_of (zk_l (zk_l (zk_r (zk_l zdX3_add_60))))
theorem dX3_add_67 : decode cX3_add 67 = .ok (.iconst 1, 1) := zk_of (zk_r (zk_l (zk_r (zk_l zdX3_add_60))))
theorem dX3_add_68 : decode cX3_add 68 = .ok (.iadd, 1) := zk_of (zk_l (zk_r (zk_r (zk_l zdX3_add_60))))
theorem dX3_add_69 : decode cX3_add 69 = .ok (.putfield 53, 3) := zk_of (zk_r (zk_r (zk_r (zk_l zdX3_add_60))))
theorem dX3_add_72 : decode cX3_add 72 = .ok (.aload_n 0, 1) := zk_of (zk_l (zk_l (zk_l (zk_r zdX3_add_60))))
theorem dX3_add_73 : decode cX3_add 73 = .ok (.getfield 53, 3) := zk_of (zk_r (zk_l (zk_l (zk_r zdX3_add_60))))
theorem dX3_add_76 : decode cX3_add 76 = .ok (.iconst 1, 1) := zk_of (zk_l (zk_r (zk_l (zk_r zdX3_add_60))))
theorem dX3_add_77 : decode cX3_add 77 = .ok (.isub, 1) := zk_of (zk_r (zk_r (zk_l (zk_r zdX3_add_60))))
theorem dX3_add_78 : decode cX3_add 78 = .ok (.ireturn, 1) := zk_of (zk_l (zk_l (zk_r (zk_r zdX3_add_60))))
theorem dX3_add_9 : decode cX3_add 9 = .ok (.iconst (-1), 1) := zk_of (zk_r (zk_l (zk_r (zk_r zdX3_add_60))))
theorem dX3_add_10 : decode cX3_add 10 = .ok (.ireturn, 1) := zk_of (zk_r (zk_r (zk_r zdX3_add_60)))
/-- HissHorn$Looks.add(IIII)I of cell 10 -/
def rmX3_add_10 : Room := { frames := 0, cells := 0, slots := 0, locals := 0 }
theorem hX3_add_10_X3 : ∀ w ∈ u_ws RX3 TX3 19, w ∈ wsX3_add := fun w h => (List.mem_cons_of_mem _ (List.mem_append_right _ h))
theorem mX3_add_10_1 : Cond.fieldLink RX3 53 "HissHorn$Looks" "size" "I" ∈ wsX3_add := (List.mem_cons_of_mem _ (List.mem_append_left _ (List.mem_of_getElem? (i := 0) rfl)))
theorem mX3_add_10_2 : Cond.fieldLink RX3 9 "HissHorn$Looks" "part" "[I" ∈ wsX3_add := (List.mem_cons_of_mem _ (List.mem_append_left _ (List.mem_of_getElem? (i := 1) rfl)))
theorem mX3_add_10_3 : Cond.fieldLink RX3 15 "HissHorn$Looks" "from" "[I" ∈ wsX3_add := (List.mem_cons_of_mem _ (List.mem_append_left _ (List.mem_of_getElem? (i := 2) rfl)))
theorem mX3_add_10_4 : Cond.fieldLink RX3 18 "HissHorn$Looks" "to" "[I" ∈ wsX3_add := (List.mem_cons_of_mem _ (List.mem_append_left _ (List.mem_of_getElem? (i := 3) rfl)))
theorem mX3_add_10_5 : Cond.fieldLink RX3 21 "HissHorn$Looks" "cost" "[I" ∈ wsX3_add := (List.mem_cons_of_mem _ (List.mem_append_left _ (List.mem_of_getElem? (i := 4) rfl)))
theorem mX3_add_10_6 : Cond.fieldLink RX3 24 "HissHorn$Looks" "doneDay" "[I" ∈ wsX3_add := (List.mem_cons_of_mem _ (List.mem_append_left _ (List.mem_of_getElem? (i := 5) rfl)))
def fX3_add_10 (x1 : Int32) (x2 : Int32) (x3 : Int32) (x4 : Int32) (u : SX) : Option (Int32 × SX) := (if (u.1 29) < 10 then (gd (inb (u.1 29) 10) (lt (sA u 48 (upd (u.2.1 48) (u.1 29).toNatClampNeg x1)) fun u2 => (gd (inb (u2.1 29) 10) (lt (sA u2 49 (upd (u2.2.1 49) (u2.1 29).toNatClampNeg x2)) fun u5 => (gd (inb (u5.1 29) 10) (lt (sA u5 50 (upd (u5.2.1 50) (u5.1 29).toNatClampNeg x3)) fun u8 => (gd (inb (u8.1 29) 10) (lt (sA u8 51 (upd (u8.2.1 51) (u8.1 29).toNatClampNeg x4)) fun u11 => (gd (inb (u11.1 29) 10) (lt (sA u11 52 (upd (u11.2.1 52) (u11.1 29).toNatClampNeg (-1))) fun u14 => (lt (sI u14 29 ((u14.1 29) + 1)) fun u16 => (some ((u16.1 29) - 1, u16))))))))))))) else (some ((-1), u)))
set_option maxHeartbeats 4000000 in
set_option maxRecDepth 100000 in
theorem wX3_add_10 {p : Program} {l : Launch} {e : Env} {s : State} {m : MethodId} {args : Array Value} {below : List Frame} {meth : Method} {c : Code} {D : va_G} {cy : Nat → ClassId} {ad st : Nat → Nat} (C : Cx RX3 cX3_add 5 (some .int) wsX3_add p s m args meth c) (hK : Ky D [(cy 0, .int), (cy 1, .long), (cy 2, .boolean), (cy 3, .byte), (cy 4, .object "HissHorn$Text")] st s) (hJ : JX ad st) (x1 : Int32) (x2 : Int32) (x3 : Int32) (x4 : Int32) {u : SX} {r : Int32} {u' : SX} {H : Heap} {locs : List Loc} {ls : Array Slot} (h : fX3_add_10 x1 x2 x3 x4 u = some (r, u')) (hP : va_P D vwCl (VX cy ad st u) H) (hS : va_S (Ax (AX ad) s.heap.size) s.heap H locs) (hl : lv_has ls 5 [(0, .ref (ad 10)), (1, .int x1), (2, .int x2), (3, .int x3), (4, .int x4)]) : W p l e rmX3_add_10 s m args below meth c H locs 0 0 (MQ below (Qi D (VX cy ad st) (AX ad) s.heap.size r u') args s 0 0 (Ax (AX ad) s.heap.size)) (F0 m 0 ls []) := by
  unfold fX3_add_10 at h
  refine lv_aload_n C.1 C.2.1 dX3_add_0 rfl (lv_at hl 0 rfl) ?_
  refine gX_10_size C hX3_add_10_X3 hK hP mX3_add_10_1 dX3_add_1 ?_
  refine lv_bipush (v := 10) C.1 C.2.1 dX3_add_4 (by decide) ?_
  refine lv_icmp_lt (tgt := 11) C.1 C.2.1 dX3_add_6 (by decide) (fun c6 => ?_) (fun c6 => ?_)
  · rw [if_pos c6] at h
    refine lv_aload_n C.1 C.2.1 dX3_add_11 rfl (lv_at hl 0 rfl) ?_
    refine gX_10_part C hX3_add_10_X3 hK hP mX3_add_10_2 dX3_add_12 ?_
    refine lv_aload_n C.1 C.2.1 dX3_add_15 rfl (lv_at hl 0 rfl) ?_
    refine gX_10_size C hX3_add_10_X3 hK hP mX3_add_10_1 dX3_add_16 ?_
    refine lv_iload_n C.1 C.2.1 dX3_add_19 rfl (lv_at hl 1 rfl) ?_
    obtain ⟨hg1, h⟩ := gd_some h
    refine tX_48 C hK hP hJ hS hg1 dX3_add_20 (fun H locs hP hS => ?_)
    obtain ⟨u2, hu3, h⟩ := lt_some h
    rw [← hu3] at hP
    refine lv_aload_n C.1 C.2.1 dX3_add_21 rfl (lv_at hl 0 rfl) ?_
    refine gX_10_from C hX3_add_10_X3 hK hP mX3_add_10_3 dX3_add_22 ?_
    refine lv_aload_n C.1 C.2.1 dX3_add_25 rfl (lv_at hl 0 rfl) ?_
    refine gX_10_size C hX3_add_10_X3 hK hP mX3_add_10_1 dX3_add_26 ?_
    refine lv_iload_n C.1 C.2.1 dX3_add_29 rfl (lv_at hl 2 rfl) ?_
    obtain ⟨hg4, h⟩ := gd_some h
    refine tX_49 C hK hP hJ hS hg4 dX3_add_30 (fun H locs hP hS => ?_)
    obtain ⟨u5, hu6, h⟩ := lt_some h
    rw [← hu6] at hP
    refine lv_aload_n C.1 C.2.1 dX3_add_31 rfl (lv_at hl 0 rfl) ?_
    refine gX_10_to C hX3_add_10_X3 hK hP mX3_add_10_4 dX3_add_32 ?_
    refine lv_aload_n C.1 C.2.1 dX3_add_35 rfl (lv_at hl 0 rfl) ?_
    refine gX_10_size C hX3_add_10_X3 hK hP mX3_add_10_1 dX3_add_36 ?_
    refine lv_iload_n C.1 C.2.1 dX3_add_39 rfl (lv_at hl 3 rfl) ?_
    obtain ⟨hg7, h⟩ := gd_some h
    refine tX_50 C hK hP hJ hS hg7 dX3_add_40 (fun H locs hP hS => ?_)
    obtain ⟨u8, hu9, h⟩ := lt_some h
    rw [← hu9] at hP
    refine lv_aload_n C.1 C.2.1 dX3_add_41 rfl (lv_at hl 0 rfl) ?_
    refine gX_10_cost C hX3_add_10_X3 hK hP mX3_add_10_5 dX3_add_42 ?_
    refine lv_aload_n C.1 C.2.1 dX3_add_45 rfl (lv_at hl 0 rfl) ?_
    refine gX_10_size C hX3_add_10_X3 hK hP mX3_add_10_1 dX3_add_46 ?_
    refine lv_iload C.1 C.2.1 dX3_add_49 (lv_at hl 4 rfl) ?_
    obtain ⟨hg10, h⟩ := gd_some h
    refine tX_51 C hK hP hJ hS hg10 dX3_add_51 (fun H locs hP hS => ?_)
    obtain ⟨u11, hu12, h⟩ := lt_some h
    rw [← hu12] at hP
    refine lv_aload_n C.1 C.2.1 dX3_add_52 rfl (lv_at hl 0 rfl) ?_
    refine gX_10_doneDay C hX3_add_10_X3 hK hP mX3_add_10_6 dX3_add_53 ?_
    refine lv_aload_n C.1 C.2.1 dX3_add_56 rfl (lv_at hl 0 rfl) ?_
    refine gX_10_size C hX3_add_10_X3 hK hP mX3_add_10_1 dX3_add_57 ?_
    refine lv_iconst (v := (-1)) C.1 C.2.1 dX3_add_60 (by decide) ?_
    obtain ⟨hg13, h⟩ := gd_some h
    refine tX_52 C hK hP hJ hS hg13 dX3_add_61 (fun H locs hP hS => ?_)
    obtain ⟨u14, hu15, h⟩ := lt_some h
    rw [← hu15] at hP
    refine lv_aload_n C.1 C.2.1 dX3_add_62 rfl (lv_at hl 0 rfl) ?_
    refine lv_dup C.1 C.2.1 dX3_add_63 rfl ?_
    refine gX_10_size C hX3_add_10_X3 hK hP mX3_add_10_1 dX3_add_64 ?_
    refine lv_iconst (v := 1) C.1 C.2.1 dX3_add_67 (by decide) ?_
    refine lv_iadd C.1 C.2.1 dX3_add_68 ?_
    refine pX_10_size C hX3_add_10_X3 hK hP hJ hS mX3_add_10_1 dX3_add_69 (fun H locs hP hS => ?_)
    obtain ⟨u16, hu17, h⟩ := lt_some h
    rw [← hu17] at hP
    refine lv_aload_n C.1 C.2.1 dX3_add_72 rfl (lv_at hl 0 rfl) ?_
    refine gX_10_size C hX3_add_10_X3 hK hP mX3_add_10_1 dX3_add_73 ?_
    refine lv_iconst (v := 1) C.1 C.2.1 dX3_add_76 (by decide) ?_
    refine lv_isub C.1 C.2.1 dX3_add_77 ?_
    cases h
    exact rt_i C hP hS dX3_add_78
  · rw [if_neg c6] at h
    refine lv_iconst (v := (-1)) C.1 C.2.1 dX3_add_9 (by decide) ?_
    cases h
    exact rt_i C hP hS dX3_add_10
theorem metX3_add_10 (l : Launch) (D : va_G) (cy : Nat → ClassId) (ad st : Nat → Nat) (hJ : JX ad st) (sz : Nat) (x1 : Int32) (x2 : Int32) (x3 : Int32) (x4 : Int32) {u : SX} {r : Int32} {u' : SX} (h : fX3_add_10 x1 x2 x3 x4 u = some (r, u')) : Met l yX3_add wsX3_add rmX3_add_10 (va_Pc [.ref (ad 10), .int x1, .int x2, .int x3, .int x4] (Px D [(cy 0, .int), (cy 1, .long), (cy 2, .boolean), (cy 3, .byte), (cy 4, .object "HissHorn$Text")] st (VX cy ad st) sz u)) (Qi D (VX cy ad st) (AX ad) sz r u') 0 0 (Ax (AX ad) sz) := by
  refine Met.ofW (cc := cX3_add) (maxL := 5) (ret := (some .int)) (by decide) rfl ?_
  intro p e s m args below meth c s₁ B hml hv
  obtain ⟨rfl, hsz, hP, hK⟩ := hv
  subst hsz
  have C : Cx RX3 cX3_add 5 (some .int) wsX3_add p s m _ meth c := ⟨B.exec, B.bytes, hml, B.returns, findClass_of_methodNamed B.named, atoms_spec (ws := wsX3_add) B.pre, B.notSynchronized⟩
  have hl := lv_entry ([.ref (ad 10), .int x1, .int x2, .int x3, .int x4]) (n := 5) (Nat.le_of_ble_eq_true rfl)
  rw [lg_entry_eq]
  exact wX3_add_10 C hK hJ x1 x2 x3 x4 h hP va_S.rf hl

theorem zdX11_look_35 : (and (and (and (and (and (zk cX11_look 35 (.istore 5) 2) (zk cX11_look 37 (.iload 5) 2)) (and (zk cX11_look 39 (.ifCond .eq 15) 3) (zk cX11_look 54 (.iconst (-1)) 1))) (and (and (zk cX11_look 55 (.goto 15) 3) (zk cX11_look 70 (.ireturn) 1)) (and (zk cX11_look 42 (.aload_n 0) 1) (zk cX11_look 43 (.getfield 83) 3)))) (and (and (and (zk cX11_look 46 (.getfield 251) 3) (zk cX11_look 49 (.bipush 10) 2)) (and (zk cX11_look 51 (.if_icmp .lt 7) 3) (zk cX11_look 58 (.aload_n 0) 1))) (and (and (zk cX11_look 59 (.getfield 83) 3) (zk cX11_look 62 (.iload_n 1) 1)) (and (zk cX11_look 63 (.iload_n 2) 1) (zk cX11_look 64 (.iload_n 3) 1))))) (and (and (and (and (zk cX11_look 65 (.iload 4) 2) (zk cX11_look 67 (.invokevirtual 252) 3)) (and (zk cX11_look 34 (.iconst 0) 1) (zk cX11_look 0 (.aload_n 0) 1))) (and (and (zk cX11_look 1 (.getfield 49) 3) (zk cX11_look 4 (.iload_n 1) 1)) (and (zk cX11_look 5 (.invokevirtual 180) 3) (zk cX11_look 8 (.ifCond .eq 26) 3)))) (and (and (and (zk cX11_look 11 (.iload_n 2) 1) (zk cX11_look 12 (.iload_n 3) 1)) (and (zk cX11_look 13 (.invokestatic 164) 3) (zk cX11_look 16 (.ifCond .eq 18) 3))) (and (and (zk cX11_look 19 (.iload 4) 2) (zk cX11_look 21 (.iconst 1) 1)) (and (zk cX11_look 22 (.bipush 50) 2) (zk cX11_look 24 (.invokestatic 107) 3)))))) = true := by decide +kernel
theorem dX11_look_35 : decode cX11_look 35 = .ok (.istore 5, 2) := zk_of (zk_l (zk_l (zk_l (zk_l (zk_l zdX11_look_35)))))
theorem dX11_look_37 : decode cX11_look 37 = .ok (.iload 5, 2) := zk_of (zk_r (zk_l (zk_l (zk_l (zk_l zdX11_look_35)))))
theorem dX11_look_39 : decode cX11_look 39 = .ok (.ifCond .eq 15, 3) := zk_of (zk_l (zk_r (zk_l (zk_l (zk_l zdX11_look_35)))))
theorem dX11_look_54 : decode cX11_look 54 = .ok (.iconst (-1), 1) := zk_of (zk_r (zk_r (zk_l (zk_l (zk_l zdX11_look_35)))))
theorem dX11_look_55 : decode cX11_look 55 = .ok (.goto 15, 3) := zk_of (zk_l (zk_l (zk_r (zk_l (zk_l zdX11_look_35)))))
theorem dX11_look_70 : decode cX11_look 70 = .ok (.ireturn, 1) := zk_of (zk_r (zk_l (zk_r (zk_l (zk_l zdX11_look_35)))))
theorem dX11_look_42 : decode cX11_look 42 = .ok (.aload_n 0, 1) := zk_of (zk_l (zk_r (zk_r (zk_l (zk_l zdX11_look_35)))))
theorem dX11_look_43 : decode cX11_look 43 = .ok (.getfield 83, 3) := zk_of (zk_r (zk_r (zk_r (zk_l (zk_l zdX11_look_35)))))
theorem dX11_look_46 : decode cX11_look 46 = .ok (.getfield 251, 3) := zk_of (zk_l (zk_l (zk_l (zk_r (zk_l zdX11_look_35)))))
theorem dX11_look_49 : decode cX11_look 49 = .ok (.bipush 10, 2) := zk_of (zk_r (zk_l (zk_l (zk_r (zk_l zdX11_look_35)))))
theorem dX11_look_51 : decode cX11_look 51 = .ok (.if_icmp .lt 7, 3) := zk_of (zk_l (zk_r (zk_l (zk_r (zk_l zdX11_look_35)))))
theorem dX11_look_58 : decode cX11_look 58 = .ok (.aload_n 0, 1) := zk_of (zk_r (zk_r (zk_l (zk_r (zk_l zdX11_look_35)))))
theorem dX11_look_59 : decode cX11_look 59 = .ok (.getfield 83, 3) := zk_of (zk_l (zk_l (zk_r (zk_r (zk_l zdX11_look_35)))))
theorem dX11_look_62 : decode cX11_look 62 = .ok (.iload_n 1, 1) := zk_of (zk_r (zk_l (zk_r (zk_r (zk_l zdX11_look_35)))))
theorem dX11_look_63 : decode cX11_look 63 = .ok (.iload_n 2, 1) := zk_of (zk_l (zk_r (zk_r (zk_r (zk_l zdX11_look_35)))))
theorem dX11_look_64 : decode cX11_look 64 = .ok (.iload_n 3, 1) := zk_of (zk_r (zk_r (zk_r (zk_r (zk_l zdX11_look_35)))))
theorem dX11_look_65 : decode cX11_look 65 = .ok (.iload 4, 2) := zk_of (zk_l (zk_l (zk_l (zk_l (zk_r zdX11_look_35)))))
theorem dX11_look_67 : decode cX11_look 67 = .ok (.invokevirtual 252, 3) := zk_of (zk_r (zk_l (zk_l (zk_l (zk_r zdX11_look_35)))))
theorem dX11_look_34 : decode cX11_look 34 = .ok (.iconst 0, 1) := zk_of (zk_l (zk_r (zk_l (zk_l (zk_r zdX11_look_35)))))
theorem dX11_look_0 : decode cX11_look 0 = .ok (.aload_n 0, 1) := zk_of (zk_r (zk_r (zk_l (zk_l (zk_r zdX11_look_35)))))
theorem dX11_look_1 : decode cX11_look 1 = .ok (.getfield 49, 3) := zk_of (zk_l (zk_l (zk_r (zk_l (zk_r zdX11_look_35)))))
theorem dX11_look_4 : decode cX11_look 4 = .ok (.iload_n 1, 1) := zk_of (zk_r (zk_l (zk_r (zk_l (zk_r zdX11_look_35)))))
theorem dX11_look_5 : decode cX11_look 5 = .ok (.invokevirtual 180, 3) := zk_of (zk_l (zk_r (zk_r (zk_l (zk_r zdX11_look_35)))))
theorem dX11_look_8 : decode cX11_look 8 = .ok (.ifCond .eq 26, 3) := zk_of (zk_r (zk_r (zk_r (zk_l (zk_r zdX11_look_35)))))
theorem dX11_look_11 : decode cX11_look 11 = .ok (.iload_n 2, 1) := zk_of (zk_l (zk_l (zk_l (zk_r (zk_r zdX11_look_35)))))
theorem dX11_look_12 : decode cX11_look 12 = .ok (.iload_n 3, 1) := zk_of (zk_r (zk_l (zk_l (zk_r (zk_r zdX11_look_35)))))
theorem dX11_look_13 : decode cX11_look 13 = .ok (.invokestatic 164, 3) := zk_of (zk_l (zk_r (zk_l (zk_r (zk_r zdX11_look_35)))))
theorem dX11_look_16 : decode cX11_look 16 = .ok (.ifCond .eq 18, 3) := zk_of (zk_r (zk_r (zk_l (zk_r (zk_r zdX11_look_35)))))
theorem dX11_look_19 : decode cX11_look 19 = .ok (.iload 4, 2) := zk_of (zk_l (zk_l (zk_r (zk_r (zk_r zdX11_look_35)))))
theorem dX11_look_21 : decode cX11_look 21 = .ok (.iconst 1, 1) := zk_of (zk_r (zk_l (zk_r (zk_r (zk_r zdX11_look_35)))))
theorem dX11_look_22 : decode cX11_look 22 = .ok (.bipush 50, 2) := zk_of (zk_l (zk_r (zk_r (zk_r (zk_r zdX11_look_35)))))
theorem dX11_look_24 : decode cX11_look 24 = .ok (.invokestatic 107, 3) := zk_of (zk_r (zk_r (zk_r (zk_r (zk_r zdX11_look_35)))))
set_option maxRecDepth 20000 in
theorem ggX11_look_X3_add : GoodIn wsX11_look wsX3_add := ggi (fun w h => List.mem_cons_of_mem _ (List.mem_append_left _ (List.mem_append_left _ (List.mem_append_left _ (List.mem_append_right _ (List.mem_append_left _ h)))))) gs_X3_add
set_option maxRecDepth 20000 in
theorem gX11_look_X3_add : GoodIn wsX11_look (wsV RX11 252 RX3 yX3_add wsX3_add) := goodIn_app (goodIn_of _ (by decide +kernel)) ggX11_look_X3_add
set_option maxRecDepth 20000 in
theorem ggX11_look_X6_has : GoodIn wsX11_look wsX6_has := ggi (fun w h => List.mem_cons_of_mem _ (List.mem_append_left _ (List.mem_append_left _ (List.mem_append_left _ (List.mem_append_right _ (List.mem_append_right _ (List.mem_append_left _ h))))))) gs_X6_has
set_option maxRecDepth 20000 in
theorem gX11_look_X6_has : GoodIn wsX11_look (wsV RX11 180 RX6 yX6_has wsX6_has) := goodIn_app (goodIn_of _ (by decide +kernel)) ggX11_look_X6_has
set_option maxRecDepth 20000 in
theorem ggX11_look_X11_isLoudness : GoodIn wsX11_look wsX11_isLoudness := ggi (fun w h => List.mem_cons_of_mem _ (List.mem_append_left _ (List.mem_append_left _ (List.mem_append_left _ (List.mem_append_right _ (List.mem_append_right _ (List.mem_append_right _ (List.mem_append_left _ h)))))))) gs_X11_isLoudness
set_option maxRecDepth 20000 in
theorem gX11_look_X11_isLoudness : GoodIn wsX11_look (va_wsS RX11 164 yX11_isLoudness wsX11_isLoudness) := goodIn_app (goodIn_of _ (by decide +kernel)) ggX11_look_X11_isLoudness
set_option maxRecDepth 20000 in
theorem ggX11_look_X11_within : GoodIn wsX11_look wsX11_within := ggi (fun w h => List.mem_cons_of_mem _ (List.mem_append_left _ (List.mem_append_left _ (List.mem_append_left _ (List.mem_append_right _ (List.mem_append_right _ (List.mem_append_right _ (List.mem_append_right _ h)))))))) gs_X11_within
set_option maxRecDepth 20000 in
theorem gX11_look_X11_within : GoodIn wsX11_look (va_wsS RX11 107 yX11_within wsX11_within) := goodIn_app (goodIn_of _ (by decide +kernel)) ggX11_look_X11_within
theorem zdX11_look_27 : (and (and (zk cX11_look 27 (.ifCond .eq 7) 3) (zk cX11_look 30 (.iconst 1) 1)) (zk cX11_look 31 (.goto 4) 3)) = true := by decide +kernel
theorem dX11_look_27 : decode cX11_look 27 = .ok (.ifCond .eq 7, 3) := zk_of (zk_l (zk_l zdX11_look_27))
theorem dX11_look_30 : decode cX11_look 30 = .ok (.iconst 1, 1) := zk_of (zk_r (zk_l zdX11_look_27))
theorem dX11_look_31 : decode cX11_look 31 = .ok (.goto 4, 3) := zk_of (zk_r zdX11_look_27)
/-- HissHorn.look(IIII)I of cell 0 -/
def rmX11_look_0 : Room := { frames := 1, cells := 0, slots := 0, locals := 24 }
theorem hX11_look_0_X11 : ∀ w ∈ u_ws RX11 TX11 13, w ∈ wsX11_look := fun w h => (List.mem_cons_of_mem _ (List.mem_append_left _ (List.mem_append_left _ (List.mem_append_right _ h))))
theorem mX11_look_0_1 : Cond.fieldLink RX11 49 "HissHorn" "parts" "LHissHorn$Parts;" ∈ wsX11_look := (List.mem_cons_of_mem _ (List.mem_append_left _ (List.mem_append_left _ (List.mem_append_left _ (List.mem_append_left _ (List.mem_of_getElem? (i := 13) rfl))))))
theorem mX11_look_0_2 : Cond.fieldLink RX11 83 "HissHorn" "looks" "LHissHorn$Looks;" ∈ wsX11_look := (List.mem_cons_of_mem _ (List.mem_append_left _ (List.mem_append_left _ (List.mem_append_left _ (List.mem_append_left _ (List.mem_of_getElem? (i := 14) rfl))))))
theorem hX11_look_0_X3 : ∀ w ∈ u_ws RX3 TX3 19, w ∈ wsX11_look := fun w h => (List.mem_cons_of_mem _ (List.mem_append_left _ (List.mem_append_right _ h)))
theorem mX11_look_0_4 : Cond.fieldLink RX11 251 "HissHorn$Looks" "size" "I" ∈ wsX11_look := (List.mem_cons_of_mem _ (List.mem_append_left _ (List.mem_append_left _ (List.mem_append_left _ (List.mem_append_left _ (List.mem_of_getElem? (i := 15) rfl))))))
def GX11_look_0_35 (z1 : Int32) (z2 : Int32) (z3 : Int32) (z4 : Int32) (y0 : Int32) (u : SX) : Option (Int32 × SX) := (if y0 = 0 then (some ((-1), u)) else (if (u.1 29) < 10 then ((fX3_add_10 z1 z2 z3 z4 u).bind fun q => match q with | (r4, u5) => (some (r4, u5))) else (some ((-1), u))))
def GX11_look_0_34 (z1 : Int32) (z2 : Int32) (z3 : Int32) (z4 : Int32) (u : SX) : Option (Int32 × SX) := (GX11_look_0_35 z1 z2 z3 z4 0 u)
def fX11_look_0 (x1 : Int32) (x2 : Int32) (x3 : Int32) (x4 : Int32) (u : SX) : Option (Int32 × SX) := ((fX6_has_6 x1 u).bind fun q => match q with | (r1, u2) => (if r1 = 0 then (GX11_look_0_34 x1 x2 x3 x4 u2) else ((fX11_isLoudness x2 x3).bind fun r7 => (if r7 = 0 then (GX11_look_0_34 x1 x2 x3 x4 u2) else ((fX11_within x4 1 50).bind fun r10 => (if r10 = 0 then (GX11_look_0_34 x1 x2 x3 x4 u2) else (GX11_look_0_35 x1 x2 x3 x4 1 u2)))))))
set_option maxHeartbeats 4000000 in
set_option maxRecDepth 100000 in
theorem wGX11_look_0_35 {p : Program} {l : Launch} {e : Env} {s : State} {m : MethodId} {args : Array Value} {below : List Frame} {meth : Method} {c : Code} {D : va_G} {cy : Nat → ClassId} {ad st : Nat → Nat} (C : Cx RX11 cX11_look 6 (some .int) wsX11_look p s m args meth c) (hK : Ky D [(cy 0, .int), (cy 1, .long), (cy 2, .boolean), (cy 3, .byte), (cy 4, .object "HissHorn$Text")] st s) (hJ : JX ad st) {r : Int32} {u' : SX}   (z1 : Int32) (z2 : Int32) (z3 : Int32) (z4 : Int32) (y0 : Int32) (u : SX) (H : Heap) (locs : List Loc) (ls : Array Slot) (h : GX11_look_0_35 z1 z2 z3 z4 y0 u = some (r, u')) (hP : va_P D vwCl (VX cy ad st u) H) (hS : va_S (Ax (AX ad) s.heap.size) s.heap H locs) (hl : lv_has ls 6 [(0, .ref (ad 0)), (1, .int z1), (2, .int z2), (3, .int z3), (4, .int z4)]) : W p l e rmX11_look_0 s m args below meth c H locs 0 0 (MQ below (Qi D (VX cy ad st) (AX ad) s.heap.size r u') args s 0 0 (Ax (AX ad) s.heap.size)) (F0 m 35 ls [.int y0]) := by
  unfold GX11_look_0_35 at h
  refine lv_istore (lv' := [(5, .int y0), (0, .ref (ad 0)), (1, .int z1), (2, .int z2), (3, .int z3), (4, .int z4)]) C.1 C.2.1 dX11_look_35 hl (by decide) rfl (fun ls hl => ?_)
  replace hl := lv_sub (l' := [(0, .ref (ad 0)), (1, .int z1), (2, .int z2), (3, .int z3), (4, .int z4), (5, .int y0)]) hl [1, 2, 3, 4, 5, 0] rfl
  refine lv_iload C.1 C.2.1 dX11_look_37 (lv_at hl 5 rfl) ?_
  refine lv_if_eq (tgt := 54) C.1 C.2.1 dX11_look_39 (by decide) (fun c39 => ?_) (fun c39 => ?_)
  · rw [if_pos c39] at h
    refine lv_iconst (v := (-1)) C.1 C.2.1 dX11_look_54 (by decide) ?_
    refine lv_goto (tgt := 70) C.1 C.2.1 dX11_look_55 (by decide) ?_
    cases h
    exact rt_i C hP hS dX11_look_70
  · rw [if_neg c39] at h
    refine lv_aload_n C.1 C.2.1 dX11_look_42 rfl (lv_at hl 0 rfl) ?_
    refine gX_0_looks C hX11_look_0_X11 hK hP mX11_look_0_2 dX11_look_43 ?_
    refine gX_10_size C hX11_look_0_X3 hK hP mX11_look_0_4 dX11_look_46 ?_
    refine lv_bipush (v := 10) C.1 C.2.1 dX11_look_49 (by decide) ?_
    refine lv_icmp_lt (tgt := 58) C.1 C.2.1 dX11_look_51 (by decide) (fun c51 => ?_) (fun c51 => ?_)
    · rw [if_pos c51] at h
      refine lv_aload_n C.1 C.2.1 dX11_look_58 rfl (lv_at hl 0 rfl) ?_
      refine gX_0_looks C hX11_look_0_X11 hK hP mX11_look_0_2 dX11_look_59 ?_
      refine lv_iload_n C.1 C.2.1 dX11_look_62 rfl (lv_at hl 1 rfl) ?_
      refine lv_iload_n C.1 C.2.1 dX11_look_63 rfl (lv_at hl 2 rfl) ?_
      refine lv_iload_n C.1 C.2.1 dX11_look_64 rfl (lv_at hl 3 rfl) ?_
      refine lv_iload C.1 C.2.1 dX11_look_65 (lv_at hl 4 rfl) ?_
      obtain ⟨⟨r4, u5⟩, hc6, h⟩ := bd_some h
      try dsimp only at h
      refine cg_i (As := [.int z1, .int z2, .int z3, .int z4]) (rest := []) (AX_ge hJ) C hK hP hS (metX3_add_10 l D cy ad st hJ _ z1 z2 z3 z4 hc6) (cwV 4 C.2.2.2.2.2.1 gX11_look_X3_add rfl rfl rfl (by decide +kernel) ⟨(Nat.le_of_ble_eq_true rfl), (Nat.le_of_ble_eq_true rfl)⟩) 10 3 rfl rfl rfl hl.1 rfl (Nat.le_of_ble_eq_true rfl) dX11_look_67 ⟨Nat.zero_le _, Nat.zero_le _⟩ (fun H locs hP hS => ?_)
      cases h
      exact rt_i C hP hS dX11_look_70
    · rw [if_neg c51] at h
      refine lv_iconst (v := (-1)) C.1 C.2.1 dX11_look_54 (by decide) ?_
      refine lv_goto (tgt := 70) C.1 C.2.1 dX11_look_55 (by decide) ?_
      cases h
      exact rt_i C hP hS dX11_look_70
set_option maxHeartbeats 4000000 in
set_option maxRecDepth 100000 in
theorem wGX11_look_0_34 {p : Program} {l : Launch} {e : Env} {s : State} {m : MethodId} {args : Array Value} {below : List Frame} {meth : Method} {c : Code} {D : va_G} {cy : Nat → ClassId} {ad st : Nat → Nat} (C : Cx RX11 cX11_look 6 (some .int) wsX11_look p s m args meth c) (hK : Ky D [(cy 0, .int), (cy 1, .long), (cy 2, .boolean), (cy 3, .byte), (cy 4, .object "HissHorn$Text")] st s) (hJ : JX ad st) {r : Int32} {u' : SX}   (z1 : Int32) (z2 : Int32) (z3 : Int32) (z4 : Int32) (u : SX) (H : Heap) (locs : List Loc) (ls : Array Slot) (h : GX11_look_0_34 z1 z2 z3 z4 u = some (r, u')) (hP : va_P D vwCl (VX cy ad st u) H) (hS : va_S (Ax (AX ad) s.heap.size) s.heap H locs) (hl : lv_has ls 6 [(0, .ref (ad 0)), (1, .int z1), (2, .int z2), (3, .int z3), (4, .int z4)]) : W p l e rmX11_look_0 s m args below meth c H locs 0 0 (MQ below (Qi D (VX cy ad st) (AX ad) s.heap.size r u') args s 0 0 (Ax (AX ad) s.heap.size)) (F0 m 34 ls []) := by
  unfold GX11_look_0_34 at h
  refine lv_iconst (v := 0) C.1 C.2.1 dX11_look_34 (by decide) ?_
  exact wGX11_look_0_35 C hK hJ _ _ _ _ _ _ _ _ _ h hP hS hl
set_option maxHeartbeats 4000000 in
set_option maxRecDepth 100000 in
theorem wX11_look_0 {p : Program} {l : Launch} {e : Env} {s : State} {m : MethodId} {args : Array Value} {below : List Frame} {meth : Method} {c : Code} {D : va_G} {cy : Nat → ClassId} {ad st : Nat → Nat} (C : Cx RX11 cX11_look 6 (some .int) wsX11_look p s m args meth c) (hK : Ky D [(cy 0, .int), (cy 1, .long), (cy 2, .boolean), (cy 3, .byte), (cy 4, .object "HissHorn$Text")] st s) (hJ : JX ad st) (x1 : Int32) (x2 : Int32) (x3 : Int32) (x4 : Int32) {u : SX} {r : Int32} {u' : SX} {H : Heap} {locs : List Loc} {ls : Array Slot} (h : fX11_look_0 x1 x2 x3 x4 u = some (r, u')) (hP : va_P D vwCl (VX cy ad st u) H) (hS : va_S (Ax (AX ad) s.heap.size) s.heap H locs) (hl : lv_has ls 6 [(0, .ref (ad 0)), (1, .int x1), (2, .int x2), (3, .int x3), (4, .int x4)]) : W p l e rmX11_look_0 s m args below meth c H locs 0 0 (MQ below (Qi D (VX cy ad st) (AX ad) s.heap.size r u') args s 0 0 (Ax (AX ad) s.heap.size)) (F0 m 0 ls []) := by
  unfold fX11_look_0 at h
  refine lv_aload_n C.1 C.2.1 dX11_look_0 rfl (lv_at hl 0 rfl) ?_
  refine gX_0_parts C hX11_look_0_X11 hK hP mX11_look_0_1 dX11_look_1 ?_
  refine lv_iload_n C.1 C.2.1 dX11_look_4 rfl (lv_at hl 1 rfl) ?_
  obtain ⟨⟨r1, u2⟩, hc3, h⟩ := bd_some h
  try dsimp only at h
  refine cg_i (As := [.int x1]) (rest := []) (AX_ge hJ) C hK hP hS (metX6_has_6 l D cy ad st hJ _ x1 hc3) (cwV 1 C.2.2.2.2.2.1 gX11_look_X6_has rfl rfl rfl (by decide +kernel) ⟨(Nat.le_of_ble_eq_true rfl), (Nat.le_of_ble_eq_true rfl)⟩) 6 6 rfl rfl rfl hl.1 rfl (Nat.le_of_ble_eq_true rfl) dX11_look_5 ⟨Nat.zero_le _, Nat.zero_le _⟩ (fun H locs hP hS => ?_)
  refine lv_if_eq (tgt := 34) C.1 C.2.1 dX11_look_8 (by decide) (fun c8 => ?_) (fun c8 => ?_)
  · rw [if_pos c8] at h
    exact wGX11_look_0_34 C hK hJ _ _ _ _ _ _ _ _ h hP hS hl
  · rw [if_neg c8] at h
    refine lv_iload_n C.1 C.2.1 dX11_look_11 rfl (lv_at hl 2 rfl) ?_
    refine lv_iload_n C.1 C.2.1 dX11_look_12 rfl (lv_at hl 3 rfl) ?_
    obtain ⟨r7, hc9, h⟩ := bd_some h
    refine cs_i (As := [.int x2, .int x3]) (rest := []) (AX_ge hJ) C hK hP hS (metX11_isLoudness l D cy st _ x2 x3 hc9) (va_cwS 2 C.2.2.2.2.2.1 gX11_look_X11_isLoudness rfl rfl rfl (by decide +kernel) ⟨(Nat.le_of_ble_eq_true rfl), (Nat.le_of_ble_eq_true rfl)⟩) rfl hl.1 rfl (Nat.le_of_ble_eq_true rfl) dX11_look_13 ⟨Nat.zero_le _, Nat.zero_le _⟩ (fun H locs hP hS => ?_)
    refine lv_if_eq (tgt := 34) C.1 C.2.1 dX11_look_16 (by decide) (fun c16 => ?_) (fun c16 => ?_)
    · rw [if_pos c16] at h
      exact wGX11_look_0_34 C hK hJ _ _ _ _ _ _ _ _ h hP hS hl
    · rw [if_neg c16] at h
      refine lv_iload C.1 C.2.1 dX11_look_19 (lv_at hl 4 rfl) ?_
      refine lv_iconst (v := 1) C.1 C.2.1 dX11_look_21 (by decide) ?_
      refine lv_bipush (v := 50) C.1 C.2.1 dX11_look_22 (by decide) ?_
      obtain ⟨r10, hc12, h⟩ := bd_some h
      refine cs_i (As := [.int x4, .int 1, .int 50]) (rest := []) (AX_ge hJ) C hK hP hS (metX11_within l D cy st _ x4 1 50 hc12) (va_cwS 3 C.2.2.2.2.2.1 gX11_look_X11_within rfl rfl rfl (by decide +kernel) ⟨(Nat.le_of_ble_eq_true rfl), (Nat.le_of_ble_eq_true rfl)⟩) rfl hl.1 rfl (Nat.le_of_ble_eq_true rfl) dX11_look_24 ⟨Nat.zero_le _, Nat.zero_le _⟩ (fun H locs hP hS => ?_)
      refine lv_if_eq (tgt := 34) C.1 C.2.1 dX11_look_27 (by decide) (fun c27 => ?_) (fun c27 => ?_)
      · rw [if_pos c27] at h
        exact wGX11_look_0_34 C hK hJ _ _ _ _ _ _ _ _ h hP hS hl
      · rw [if_neg c27] at h
        refine lv_iconst (v := 1) C.1 C.2.1 dX11_look_30 (by decide) ?_
        refine lv_goto (tgt := 35) C.1 C.2.1 dX11_look_31 (by decide) ?_
        exact wGX11_look_0_35 C hK hJ _ _ _ _ _ _ _ _ _ h hP hS hl
theorem metX11_look_0 (l : Launch) (D : va_G) (cy : Nat → ClassId) (ad st : Nat → Nat) (hJ : JX ad st) (sz : Nat) (x1 : Int32) (x2 : Int32) (x3 : Int32) (x4 : Int32) {u : SX} {r : Int32} {u' : SX} (h : fX11_look_0 x1 x2 x3 x4 u = some (r, u')) : Met l yX11_look wsX11_look rmX11_look_0 (va_Pc [.ref (ad 0), .int x1, .int x2, .int x3, .int x4] (Px D [(cy 0, .int), (cy 1, .long), (cy 2, .boolean), (cy 3, .byte), (cy 4, .object "HissHorn$Text")] st (VX cy ad st) sz u)) (Qi D (VX cy ad st) (AX ad) sz r u') 0 0 (Ax (AX ad) sz) := by
  refine Met.ofW (cc := cX11_look) (maxL := 6) (ret := (some .int)) (by decide) rfl ?_
  intro p e s m args below meth c s₁ B hml hv
  obtain ⟨rfl, hsz, hP, hK⟩ := hv
  subst hsz
  have C : Cx RX11 cX11_look 6 (some .int) wsX11_look p s m _ meth c := ⟨B.exec, B.bytes, hml, B.returns, findClass_of_methodNamed B.named, atoms_spec (ws := wsX11_look) B.pre, B.notSynchronized⟩
  have hl := lv_entry ([.ref (ad 0), .int x1, .int x2, .int x3, .int x4]) (n := 6) (Nat.le_of_ble_eq_true rfl)
  rw [lg_entry_eq]
  exact wX11_look_0 C hK hJ x1 x2 x3 x4 h hP va_S.rf hl

theorem zdX3_has_0 : (and (and (and (and (zk cX3_has 0 (.iload_n 1) 1) (zk cX3_has 1 (.ifCond .lt 15) 3)) (zk cX3_has 16 (.iconst 0) 1)) (and (zk cX3_has 17 (.ireturn) 1) (zk cX3_has 4 (.iload_n 1) 1))) (and (and (and (zk cX3_has 5 (.aload_n 0) 1) (zk cX3_has 6 (.getfield 53) 3)) (zk cX3_has 9 (.if_icmp .ge 7) 3)) (and (zk cX3_has 12 (.iconst 1) 1) (zk cX3_has 13 (.goto 4) 3)))) = true := by decide +kernel
theorem dX3_has_0 : decode cX3_has 0 = .ok (.iload_n 1, 1) := zk_of (zk_l (zk_l (zk_l (zk_l zdX3_has_0))))
theorem dX3_has_1 : decode cX3_has 1 = .ok (.ifCond .lt 15, 3) := zk_of (zk_r (zk_l (zk_l (zk_l zdX3_has_0))))
theorem dX3_has_16 : decode cX3_has 16 = .ok (.iconst 0, 1) := zk_of (zk_r (zk_l (zk_l zdX3_has_0)))
theorem dX3_has_17 : decode cX3_has 17 = .ok (.ireturn, 1) := zk_of (zk_l (zk_r (zk_l zdX3_has_0)))
theorem dX3_has_4 : decode cX3_has 4 = .ok (.iload_n 1, 1) := zk_of (zk_r (zk_r (zk_l zdX3_has_0)))
theorem dX3_has_5 : decode cX3_has 5 = .ok (.aload_n 0, 1) := zk_of (zk_l (zk_l (zk_l (zk_r zdX3_has_0))))
theorem dX3_has_6 : decode cX3_has 6 = .ok (.getfield 53, 3) := zk_of (zk_r (zk_l (zk_l (zk_r zdX3_has_0))))
theorem dX3_has_9 : decode cX3_has 9 = .ok (.if_icmp .ge 7, 3) := zk_of (zk_r (zk_l (zk_r zdX3_has_0)))
theorem dX3_has_12 : decode cX3_has 12 = .ok (.iconst 1, 1) := zk_of (zk_l (zk_r (zk_r zdX3_has_0)))
theorem dX3_has_13 : decode cX3_has 13 = .ok (.goto 4, 3) := zk_of (zk_r (zk_r (zk_r zdX3_has_0)))
/-- HissHorn$Looks.has(I)Z of cell 10 -/
def rmX3_has_10 : Room := { frames := 0, cells := 0, slots := 0, locals := 0 }
theorem hX3_has_10_X3 : ∀ w ∈ u_ws RX3 TX3 19, w ∈ wsX3_has := fun w h => (List.mem_cons_of_mem _ (List.mem_append_right _ h))
theorem mX3_has_10_1 : Cond.fieldLink RX3 53 "HissHorn$Looks" "size" "I" ∈ wsX3_has := (List.mem_cons_of_mem _ (List.mem_append_left _ (List.mem_of_getElem? (i := 0) rfl)))
def fX3_has_10 (x1 : Int32) (u : SX) : Option (Int32 × SX) := (if x1 < 0 then (gd (isB 0) (some (0, u))) else (if (u.1 29) ≤ x1 then (gd (isB 0) (some (0, u))) else (gd (isB 1) (some (1, u)))))
set_option maxHeartbeats 4000000 in
set_option maxRecDepth 100000 in
theorem wX3_has_10 {p : Program} {l : Launch} {e : Env} {s : State} {m : MethodId} {args : Array Value} {below : List Frame} {meth : Method} {c : Code} {D : va_G} {cy : Nat → ClassId} {ad st : Nat → Nat} (C : Cx RX3 cX3_has 2 (some .boolean) wsX3_has p s m args meth c) (hK : Ky D [(cy 0, .int), (cy 1, .long), (cy 2, .boolean), (cy 3, .byte), (cy 4, .object "HissHorn$Text")] st s) (hJ : JX ad st) (x1 : Int32) {u : SX} {r : Int32} {u' : SX} {H : Heap} {locs : List Loc} {ls : Array Slot} (h : fX3_has_10 x1 u = some (r, u')) (hP : va_P D vwCl (VX cy ad st u) H) (hS : va_S (Ax (AX ad) s.heap.size) s.heap H locs) (hl : lv_has ls 2 [(0, .ref (ad 10)), (1, .int x1)]) : W p l e rmX3_has_10 s m args below meth c H locs 0 0 (MQ below (Qi D (VX cy ad st) (AX ad) s.heap.size r u') args s 0 0 (Ax (AX ad) s.heap.size)) (F0 m 0 ls []) := by
  unfold fX3_has_10 at h
  refine lv_iload_n C.1 C.2.1 dX3_has_0 rfl (lv_at hl 1 rfl) ?_
  refine lv_if_lt (tgt := 16) C.1 C.2.1 dX3_has_1 (by decide) (fun c1 => ?_) (fun c1 => ?_)
  · rw [if_pos c1] at h
    refine lv_iconst (v := 0) C.1 C.2.1 dX3_has_16 (by decide) ?_
    obtain ⟨hg1, h⟩ := gd_some h
    cases h
    exact rt_z hg1 C hP hS dX3_has_17
  · rw [if_neg c1] at h
    refine lv_iload_n C.1 C.2.1 dX3_has_4 rfl (lv_at hl 1 rfl) ?_
    refine lv_aload_n C.1 C.2.1 dX3_has_5 rfl (lv_at hl 0 rfl) ?_
    refine gX_10_size C hX3_has_10_X3 hK hP mX3_has_10_1 dX3_has_6 ?_
    refine lv_icmp_ge (tgt := 16) C.1 C.2.1 dX3_has_9 (by decide) (fun c9 => ?_) (fun c9 => ?_)
    · rw [if_pos c9] at h
      refine lv_iconst (v := 0) C.1 C.2.1 dX3_has_16 (by decide) ?_
      obtain ⟨hg2, h⟩ := gd_some h
      cases h
      exact rt_z hg2 C hP hS dX3_has_17
    · rw [if_neg c9] at h
      refine lv_iconst (v := 1) C.1 C.2.1 dX3_has_12 (by decide) ?_
      refine lv_goto (tgt := 17) C.1 C.2.1 dX3_has_13 (by decide) ?_
      obtain ⟨hg3, h⟩ := gd_some h
      cases h
      exact rt_z hg3 C hP hS dX3_has_17
theorem metX3_has_10 (l : Launch) (D : va_G) (cy : Nat → ClassId) (ad st : Nat → Nat) (hJ : JX ad st) (sz : Nat) (x1 : Int32) {u : SX} {r : Int32} {u' : SX} (h : fX3_has_10 x1 u = some (r, u')) : Met l yX3_has wsX3_has rmX3_has_10 (va_Pc [.ref (ad 10), .int x1] (Px D [(cy 0, .int), (cy 1, .long), (cy 2, .boolean), (cy 3, .byte), (cy 4, .object "HissHorn$Text")] st (VX cy ad st) sz u)) (Qi D (VX cy ad st) (AX ad) sz r u') 0 0 (Ax (AX ad) sz) := by
  refine Met.ofW (cc := cX3_has) (maxL := 2) (ret := (some .boolean)) (by decide) rfl ?_
  intro p e s m args below meth c s₁ B hml hv
  obtain ⟨rfl, hsz, hP, hK⟩ := hv
  subst hsz
  have C : Cx RX3 cX3_has 2 (some .boolean) wsX3_has p s m _ meth c := ⟨B.exec, B.bytes, hml, B.returns, findClass_of_methodNamed B.named, atoms_spec (ws := wsX3_has) B.pre, B.notSynchronized⟩
  have hl := lv_entry ([.ref (ad 10), .int x1]) (n := 2) (Nat.le_of_ble_eq_true rfl)
  rw [lg_entry_eq]
  exact wX3_has_10 C hK hJ x1 h hP va_S.rf hl

theorem zdX3_isDone_0 : (and (and (and (and (zk cX3_isDone 0 (.aload_n 0) 1) (zk cX3_isDone 1 (.getfield 24) 3)) (zk cX3_isDone 4 (.iload_n 1) 1)) (and (zk cX3_isDone 5 (.iaload) 1) (zk cX3_isDone 6 (.iconst (-1)) 1))) (and (and (and (zk cX3_isDone 7 (.if_icmp .eq 7) 3) (zk cX3_isDone 14 (.iconst 0) 1)) (zk cX3_isDone 15 (.ireturn) 1)) (and (zk cX3_isDone 10 (.iconst 1) 1) (zk cX3_isDone 11 (.goto 4) 3)))) = true := by decide +kernel
theorem dX3_isDone_0 : decode cX3_isDone 0 = .ok (.aload_n 0, 1) := zk_of (zk_l (zk_l (zk_l (zk_l zdX3_isDone_0))))
theorem dX3_isDone_1 : decode cX3_isDone 1 = .ok (.getfield 24, 3) := zk_of (zk_r (zk_l (zk_l (zk_l zdX3_isDone_0))))
theorem dX3_isDone_4 : decode cX3_isDone 4 = .ok (.iload_n 1, 1) := zk_of (zk_r (zk_l (zk_l zdX3_isDone_0)))
theorem dX3_isDone_5 : decode cX3_isDone 5 = .ok (.iaload, 1) := zk_of (zk_l (zk_r (zk_l zdX3_isDone_0)))
theorem dX3_isDone_6 : decode cX3_isDone 6 = .ok (.iconst (-1), 1) := zk_of (zk_r (zk_r (zk_l zdX3_isDone_0)))
theorem dX3_isDone_7 : decode cX3_isDone 7 = .ok (.if_icmp .eq 7, 3) := zk_of (zk_l (zk_l (zk_l (zk_r zdX3_isDone_0))))
theorem dX3_isDone_14 : decode cX3_isDone 14 = .ok (.iconst 0, 1) := zk_of (zk_r (zk_l (zk_l (zk_r zdX3_isDone_0))))
theorem dX3_isDone_15 : decode cX3_isDone 15 = .ok (.ireturn, 1) := zk_of (zk_r (zk_l (zk_r zdX3_isDone_0)))
theorem dX3_isDone_10 : decode cX3_isDone 10 = .ok (.iconst 1, 1) := zk_of (zk_l (zk_r (zk_r zdX3_isDone_0)))
theorem dX3_isDone_11 : decode cX3_isDone 11 = .ok (.goto 4, 3) := zk_of (zk_r (zk_r (zk_r zdX3_isDone_0)))
/-- HissHorn$Looks.isDone(I)Z of cell 10 -/
def rmX3_isDone_10 : Room := { frames := 0, cells := 0, slots := 0, locals := 0 }
theorem hX3_isDone_10_X3 : ∀ w ∈ u_ws RX3 TX3 19, w ∈ wsX3_isDone := fun w h => (List.mem_cons_of_mem _ (List.mem_append_right _ h))
theorem mX3_isDone_10_1 : Cond.fieldLink RX3 24 "HissHorn$Looks" "doneDay" "[I" ∈ wsX3_isDone := (List.mem_cons_of_mem _ (List.mem_append_left _ (List.mem_of_getElem? (i := 0) rfl)))
def fX3_isDone_10 (x1 : Int32) (u : SX) : Option (Int32 × SX) := (gd (inb x1 10) (if (u.2.1 52 x1.toNatClampNeg) = (-1) then (gd (isB 0) (some (0, u))) else (gd (isB 1) (some (1, u)))))
set_option maxHeartbeats 4000000 in
set_option maxRecDepth 100000 in
theorem wX3_isDone_10 {p : Program} {l : Launch} {e : Env} {s : State} {m : MethodId} {args : Array Value} {below : List Frame} {meth : Method} {c : Code} {D : va_G} {cy : Nat → ClassId} {ad st : Nat → Nat} (C : Cx RX3 cX3_isDone 2 (some .boolean) wsX3_isDone p s m args meth c) (hK : Ky D [(cy 0, .int), (cy 1, .long), (cy 2, .boolean), (cy 3, .byte), (cy 4, .object "HissHorn$Text")] st s) (hJ : JX ad st) (x1 : Int32) {u : SX} {r : Int32} {u' : SX} {H : Heap} {locs : List Loc} {ls : Array Slot} (h : fX3_isDone_10 x1 u = some (r, u')) (hP : va_P D vwCl (VX cy ad st u) H) (hS : va_S (Ax (AX ad) s.heap.size) s.heap H locs) (hl : lv_has ls 2 [(0, .ref (ad 10)), (1, .int x1)]) : W p l e rmX3_isDone_10 s m args below meth c H locs 0 0 (MQ below (Qi D (VX cy ad st) (AX ad) s.heap.size r u') args s 0 0 (Ax (AX ad) s.heap.size)) (F0 m 0 ls []) := by
  unfold fX3_isDone_10 at h
  refine lv_aload_n C.1 C.2.1 dX3_isDone_0 rfl (lv_at hl 0 rfl) ?_
  refine gX_10_doneDay C hX3_isDone_10_X3 hK hP mX3_isDone_10_1 dX3_isDone_1 ?_
  refine lv_iload_n C.1 C.2.1 dX3_isDone_4 rfl (lv_at hl 1 rfl) ?_
  obtain ⟨hg1, h⟩ := gd_some h
  refine lX_52 C hK hP hg1 dX3_isDone_5 ?_
  refine lv_iconst (v := (-1)) C.1 C.2.1 dX3_isDone_6 (by decide) ?_
  refine lv_icmp_eq (tgt := 14) C.1 C.2.1 dX3_isDone_7 (by decide) (fun c7 => ?_) (fun c7 => ?_)
  · rw [if_pos c7] at h
    refine lv_iconst (v := 0) C.1 C.2.1 dX3_isDone_14 (by decide) ?_
    obtain ⟨hg2, h⟩ := gd_some h
    cases h
    exact rt_z hg2 C hP hS dX3_isDone_15
  · rw [if_neg c7] at h
    refine lv_iconst (v := 1) C.1 C.2.1 dX3_isDone_10 (by decide) ?_
    refine lv_goto (tgt := 15) C.1 C.2.1 dX3_isDone_11 (by decide) ?_
    obtain ⟨hg3, h⟩ := gd_some h
    cases h
    exact rt_z hg3 C hP hS dX3_isDone_15
theorem metX3_isDone_10 (l : Launch) (D : va_G) (cy : Nat → ClassId) (ad st : Nat → Nat) (hJ : JX ad st) (sz : Nat) (x1 : Int32) {u : SX} {r : Int32} {u' : SX} (h : fX3_isDone_10 x1 u = some (r, u')) : Met l yX3_isDone wsX3_isDone rmX3_isDone_10 (va_Pc [.ref (ad 10), .int x1] (Px D [(cy 0, .int), (cy 1, .long), (cy 2, .boolean), (cy 3, .byte), (cy 4, .object "HissHorn$Text")] st (VX cy ad st) sz u)) (Qi D (VX cy ad st) (AX ad) sz r u') 0 0 (Ax (AX ad) sz) := by
  refine Met.ofW (cc := cX3_isDone) (maxL := 2) (ret := (some .boolean)) (by decide) rfl ?_
  intro p e s m args below meth c s₁ B hml hv
  obtain ⟨rfl, hsz, hP, hK⟩ := hv
  subst hsz
  have C : Cx RX3 cX3_isDone 2 (some .boolean) wsX3_isDone p s m _ meth c := ⟨B.exec, B.bytes, hml, B.returns, findClass_of_methodNamed B.named, atoms_spec (ws := wsX3_isDone) B.pre, B.notSynchronized⟩
  have hl := lv_entry ([.ref (ad 10), .int x1]) (n := 2) (Nat.le_of_ble_eq_true rfl)
  rw [lg_entry_eq]
  exact wX3_isDone_10 C hK hJ x1 h hP va_S.rf hl

theorem zdX6_change_0 : (and (and (and (and (and (zk cX6_change 0 (.aload_n 0) 1) (zk cX6_change 1 (.getfield 53) 3)) (and (zk cX6_change 4 (.bipush 30) 2) (zk cX6_change 6 (.if_icmp .lt 4) 3))) (and (and (zk cX6_change 10 (.aload_n 0) 1) (zk cX6_change 11 (.getfield 33) 3)) (and (zk cX6_change 14 (.aload_n 0) 1) (zk cX6_change 15 (.getfield 53) 3)))) (and (and (and (zk cX6_change 18 (.iload_n 1) 1) (zk cX6_change 19 (.iastore) 1)) (and (zk cX6_change 20 (.aload_n 0) 1) (zk cX6_change 21 (.getfield 36) 3))) (and (and (zk cX6_change 24 (.aload_n 0) 1) (zk cX6_change 25 (.getfield 53) 3)) (and (zk cX6_change 28 (.iload_n 2) 1) (zk cX6_change 29 (.iastore) 1))))) (and (and (and (and (zk cX6_change 30 (.aload_n 0) 1) (zk cX6_change 31 (.getfield 39) 3)) (and (zk cX6_change 34 (.aload_n 0) 1) (zk cX6_change 35 (.getfield 53) 3))) (and (and (zk cX6_change 38 (.iload_n 3) 1) (zk cX6_change 39 (.iastore) 1)) (and (zk cX6_change 40 (.aload_n 0) 1) (zk cX6_change 41 (.getfield 42) 3)))) (and (and (and (zk cX6_change 44 (.aload_n 0) 1) (zk cX6_change 45 (.getfield 53) 3)) (and (zk cX6_change 48 (.iload 4) 2) (zk cX6_change 50 (.iastore) 1))) (and (and (zk cX6_change 51 (.aload_n 0) 1) (zk cX6_change 52 (.getfield 45) 3)) (and (zk cX6_change 55 (.aload_n 0) 1) (zk cX6_change 56 (.getfield 53) 3)))))) = true := by decide +kernel
theorem dX6_change_0 : decode cX6_change 0 = .ok (.aload_n 0, 1) := zk_of (zk_l (zk_l (zk_l (zk_l (zk_l zdX6_change_0)))))
theorem dX6_change_1 : decode cX6_change 1 = .ok (.getfield 53, 3) := zk_of (zk_r (zk_l (zk_l (zk_l (zk_l zdX6_change_0)))))
theorem dX6_change_4 : decode cX6_change 4 = .ok (.bipush 30, 2) := zk_of (zk_l (zk_r (zk_l (zk_l (zk_l zdX6_change_0)))))
theorem dX6_change_6 : decode cX6_change 6 = .ok (.if_icmp .lt 4, 3) := zk_of (zk_r (zk_r (zk_l (zk_l (zk_l zdX6_change_0)))))
theorem dX6_change_10 : decode cX6_change 10 = .ok (.aload_n 0, 1) := zk_of (zk_l (zk_l (zk_r (zk_l (zk_l zdX6_change_0)))))
theorem dX6_change_11 : decode cX6_change 11 = .ok (.getfield 33, 3) := zk_of (zk_r (zk_l (zk_r (zk_l (zk_l zdX6_change_0)))))
theorem dX6_change_14 : decode cX6_change 14 = .ok (.aload_n 0, 1) := zk_of (zk_l (zk_r (zk_r (zk_l (zk_l zdX6_change_0)))))
theorem dX6_change_15 : decode cX6_change 15 = .ok (.getfield 53, 3) := zk_of (zk_r (zk_r (zk_r (zk_l (zk_l zdX6_change_0)))))
theorem dX6_change_18 : decode cX6_change 18 = .ok (.iload_n 1, 1) := zk_of (zk_l (zk_l (zk_l (zk_r (zk_l zdX6_change_0)))))
theorem dX6_change_19 : decode cX6_change 19 = .ok (.iastore, 1) := zk_of (zk_r (zk_l (zk_l (zk_r (zk_l zdX6_change_0)))))
theorem dX6_change_20 : decode cX6_change 20 = .ok (.aload_n 0, 1) := zk_of (zk_l (zk_r (zk_l (zk_r (zk_l zdX6_change_0)))))
theorem dX6_change_21 : decode cX6_change 21 = .ok (.getfield 36, 3) := zk_of (zk_r (zk_r (zk_l (zk_r (zk_l zdX6_change_0)))))
theorem dX6_change_24 : decode cX6_change 24 = .ok (.aload_n 0, 1) := zk_of (zk_l (zk_l (zk_r (zk_r (zk_l zdX6_change_0)))))
theorem dX6_change_25 : decode cX6_change 25 = .ok (.getfield 53, 3) := zk_of (zk_r (zk_l (zk_r (zk_r (zk_l zdX6_change_0)))))
theorem dX6_change_28 : decode cX6_change 28 = .ok (.iload_n 2, 1) := zk_of (zk_l (zk_r (zk_r (zk_r (zk_l zdX6_change_0)))))
theorem dX6_change_29 : decode cX6_change 29 = .ok (.iastore, 1) := zk_of (zk_r (zk_r (zk_r (zk_r (zk_l zdX6_change_0)))))
theorem dX6_change_30 : decode cX6_change 30 = .ok (.aload_n 0, 1) := zk_of (zk_l (zk_l (zk_l (zk_l (zk_r zdX6_change_0)))))
theorem dX6_change_31 : decode cX6_change 31 = .ok (.getfield 39, 3) := zk_of (zk_r (zk_l (zk_l (zk_l (zk_r zdX6_change_0)))))
theorem dX6_change_34 : decode cX6_change 34 = .ok (.aload_n 0, 1) := zk_of (zk_l (zk_r (zk_l (zk_l (zk_r zdX6_change_0)))))
theorem dX6_change_35 : decode cX6_change 35 = .ok (.getfield 53, 3) := zk_of (zk_r (zk_r (zk_l (zk_l (zk_r zdX6_change_0)))))
theorem dX6_change_38 : decode cX6_change 38 = .ok (.iload_n 3, 1) := zk_of (zk_l (zk_l (zk_r (zk_l (zk_r zdX6_change_0)))))
theorem dX6_change_39 : decode cX6_change 39 = .ok (.iastore, 1) := zk_of (zk_r (zk_l (zk_r (zk_l (zk_r zdX6_change_0)))))
theorem dX6_change_40 : decode cX6_change 40 = .ok (.aload_n 0, 1) := zk_of (zk_l (zk_r (zk_r (zk_l (zk_r zdX6_change_0)))))
theorem dX6_change_41 : decode cX6_change 41 = .ok (.getfield 42, 3) := zk_of (zk_r (zk_r (zk_r (zk_l (zk_r zdX6_change_0)))))
theorem dX6_change_44 : decode cX6_change 44 = .ok (.aload_n 0, 1) := zk_of (zk_l (zk_l (zk_l (zk_r (zk_r zdX6_change_0)))))
theorem dX6_change_45 : decode cX6_change 45 = .ok (.getfield 53, 3) := zk_of (zk_r (zk_l (zk_l (zk_r (zk_r zdX6_change_0)))))
theorem dX6_change_48 : decode cX6_change 48 = .ok (.iload 4, 2) := zk_of (zk_l (zk_r (zk_l (zk_r (zk_r zdX6_change_0)))))
theorem dX6_change_50 : decode cX6_change 50 = .ok (.iastore, 1) := zk_of (zk_r (zk_r (zk_l (zk_r (zk_r zdX6_change_0)))))
theorem dX6_change_51 : decode cX6_change 51 = .ok (.aload_n 0, 1) := zk_of (zk_l (zk_l (zk_r (zk_r (zk_r zdX6_change_0)))))
theorem dX6_change_52 : decode cX6_change 52 = .ok (.getfield 45, 3) := zk_of (zk_r (zk_l (zk_r (zk_r (zk_r zdX6_change_0)))))
theorem dX6_change_55 : decode cX6_change 55 = .ok (.aload_n 0, 1) := zk_of (zk_l (zk_r (zk_r (zk_r (zk_r zdX6_change_0)))))
theorem dX6_change_56 : decode cX6_change 56 = .ok (.getfield 53, 3) := zk_of (zk_r (zk_r (zk_r (zk_r (zk_r zdX6_change_0)))))
theorem zdX6_change_59 : (and (and (and (and (zk cX6_change 59 (.iload 5) 2) (zk cX6_change 61 (.bastore) 1)) (zk cX6_change 62 (.aload_n 0) 1)) (and (zk cX6_change 63 (.dup) 1) (zk cX6_change 64 (.getfield 53) 3))) (and (and (and (zk cX6_change 67 (.iconst 1) 1) (zk cX6_change 68 (.iadd) 1)) (zk cX6_change 69 (.putfield 53) 3)) (and (zk cX6_change 72 (.return_) 1) (zk cX6_change 9 (.return_) 1)))) = true := by decide +kernel
theorem dX6_change_59 : decode cX6_change 59 = .ok (.iload 5, 2) := zk_of (zk_l (zk_l (zk_l (zk_l zdX6_change_59))))
theorem dX6_change_61 : decode cX6_change 61 = .ok (.bastore, 1) := zk_of (zk_r (zk_l (zk_l (zk_l zdX6_change_59))))
theorem dX6_change_62 : decode cX6_change 62 = .ok (.aload_n 0, 1) := zk_of (zk_r (zk_l (zk_l zdX6_change_59)))
theorem dX6_change_63 : decode cX6_change 63 = .ok (.dup, 1) := zk_of (zk_l (zk_r (zk_l zdX6_change_59)))
theorem dX6_change_64 : decode cX6_change 64 = .ok (.getfield 53, 3) := zk_of (zk_r (zk_r (zk_l zdX6_change_59)))
theorem dX6_change_67 : decode cX6_change 67 = .ok (.iconst 1, 1) := zk_of (zk_l (zk_l (zk_l (zk_r zdX6_change_59))))
theorem dX6_change_68 : decode cX6_change 68 = .ok (.iadd, 1) := zk_of (zk_r (zk_l (zk_l (zk_r zdX6_change_59))))
theorem dX6_change_69 : decode cX6_change 69 = .ok (.putfield 53, 3) := zk_of (zk_r (zk_l (zk_r zdX6_change_59)))
theorem dX6_change_72 : decode cX6_change 72 = .ok (.return_, 1) := zk_of (zk_l (zk_r (zk_r zdX6_change_59)))
theorem dX6_change_9 : decode cX6_change 9 = .ok (.return_, 1) := zk_of (zk_r (zk_r (zk_r zdX6_change_59)))
/-- HissHorn$Parts.change(IIIIZ)V of cell 6 -/
def rmX6_change_6 : Room := { frames := 0, cells := 0, slots := 0, locals := 0 }
theorem hX6_change_6_X6 : ∀ w ∈ u_ws RX6 TX6 17, w ∈ wsX6_change := fun w h => (List.mem_cons_of_mem _ (List.mem_append_right _ h))
theorem mX6_change_6_1 : Cond.fieldLink RX6 53 "HissHorn$Parts" "changes" "I" ∈ wsX6_change := (List.mem_cons_of_mem _ (List.mem_append_left _ (List.mem_of_getElem? (i := 0) rfl)))
theorem mX6_change_6_2 : Cond.fieldLink RX6 33 "HissHorn$Parts" "changePart" "[I" ∈ wsX6_change := (List.mem_cons_of_mem _ (List.mem_append_left _ (List.mem_of_getElem? (i := 1) rfl)))
theorem mX6_change_6_3 : Cond.fieldLink RX6 36 "HissHorn$Parts" "changeFrom" "[I" ∈ wsX6_change := (List.mem_cons_of_mem _ (List.mem_append_left _ (List.mem_of_getElem? (i := 2) rfl)))
theorem mX6_change_6_4 : Cond.fieldLink RX6 39 "HissHorn$Parts" "changeTo" "[I" ∈ wsX6_change := (List.mem_cons_of_mem _ (List.mem_append_left _ (List.mem_of_getElem? (i := 3) rfl)))
theorem mX6_change_6_5 : Cond.fieldLink RX6 42 "HissHorn$Parts" "changeDay" "[I" ∈ wsX6_change := (List.mem_cons_of_mem _ (List.mem_append_left _ (List.mem_of_getElem? (i := 4) rfl)))
theorem mX6_change_6_6 : Cond.fieldLink RX6 45 "HissHorn$Parts" "cleaned" "[Z" ∈ wsX6_change := (List.mem_cons_of_mem _ (List.mem_append_left _ (List.mem_of_getElem? (i := 5) rfl)))
def fX6_change_6 (x1 : Int32) (x2 : Int32) (x3 : Int32) (x4 : Int32) (x5 : Int32) (u : SX) : Option (Int32 × SX) := (if (u.1 12) < 30 then (gd (inb (u.1 12) 30) (lt (sA u 31 (upd (u.2.1 31) (u.1 12).toNatClampNeg x1)) fun u2 => (gd (inb (u2.1 12) 30) (lt (sA u2 32 (upd (u2.2.1 32) (u2.1 12).toNatClampNeg x2)) fun u5 => (gd (inb (u5.1 12) 30) (lt (sA u5 33 (upd (u5.2.1 33) (u5.1 12).toNatClampNeg x3)) fun u8 => (gd (inb (u8.1 12) 30) (lt (sA u8 34 (upd (u8.2.1 34) (u8.1 12).toNatClampNeg x4)) fun u11 => (gd (inb (u11.1 12) 30) (lt (sA u11 35 (upd (u11.2.1 35) (u11.1 12).toNatClampNeg (vp_nar .boolean x5))) fun u14 => (lt (sI u14 12 ((u14.1 12) + 1)) fun u16 => (some (0, u16))))))))))))) else (some (0, u)))
set_option maxHeartbeats 4000000 in
set_option maxRecDepth 100000 in
theorem wX6_change_6 {p : Program} {l : Launch} {e : Env} {s : State} {m : MethodId} {args : Array Value} {below : List Frame} {meth : Method} {c : Code} {D : va_G} {cy : Nat → ClassId} {ad st : Nat → Nat} (C : Cx RX6 cX6_change 6 none wsX6_change p s m args meth c) (hK : Ky D [(cy 0, .int), (cy 1, .long), (cy 2, .boolean), (cy 3, .byte), (cy 4, .object "HissHorn$Text")] st s) (hJ : JX ad st) (x1 : Int32) (x2 : Int32) (x3 : Int32) (x4 : Int32) (x5 : Int32) {u : SX} {r : Int32} {u' : SX} {H : Heap} {locs : List Loc} {ls : Array Slot} (h : fX6_change_6 x1 x2 x3 x4 x5 u = some (r, u')) (hP : va_P D vwCl (VX cy ad st u) H) (hS : va_S (Ax (AX ad) s.heap.size) s.heap H locs) (hl : lv_has ls 6 [(0, .ref (ad 6)), (1, .int x1), (2, .int x2), (3, .int x3), (4, .int x4), (5, .int x5)]) : W p l e rmX6_change_6 s m args below meth c H locs 0 0 (MQ below (Qv D (VX cy ad st) (AX ad) s.heap.size r u') args s 0 0 (Ax (AX ad) s.heap.size)) (F0 m 0 ls []) := by
  unfold fX6_change_6 at h
  refine lv_aload_n C.1 C.2.1 dX6_change_0 rfl (lv_at hl 0 rfl) ?_
  refine gX_6_changes C hX6_change_6_X6 hK hP mX6_change_6_1 dX6_change_1 ?_
  refine lv_bipush (v := 30) C.1 C.2.1 dX6_change_4 (by decide) ?_
  refine lv_icmp_lt (tgt := 10) C.1 C.2.1 dX6_change_6 (by decide) (fun c6 => ?_) (fun c6 => ?_)
  · rw [if_pos c6] at h
    refine lv_aload_n C.1 C.2.1 dX6_change_10 rfl (lv_at hl 0 rfl) ?_
    refine gX_6_changePart C hX6_change_6_X6 hK hP mX6_change_6_2 dX6_change_11 ?_
    refine lv_aload_n C.1 C.2.1 dX6_change_14 rfl (lv_at hl 0 rfl) ?_
    refine gX_6_changes C hX6_change_6_X6 hK hP mX6_change_6_1 dX6_change_15 ?_
    refine lv_iload_n C.1 C.2.1 dX6_change_18 rfl (lv_at hl 1 rfl) ?_
    obtain ⟨hg1, h⟩ := gd_some h
    refine tX_31 C hK hP hJ hS hg1 dX6_change_19 (fun H locs hP hS => ?_)
    obtain ⟨u2, hu3, h⟩ := lt_some h
    rw [← hu3] at hP
    refine lv_aload_n C.1 C.2.1 dX6_change_20 rfl (lv_at hl 0 rfl) ?_
    refine gX_6_changeFrom C hX6_change_6_X6 hK hP mX6_change_6_3 dX6_change_21 ?_
    refine lv_aload_n C.1 C.2.1 dX6_change_24 rfl (lv_at hl 0 rfl) ?_
    refine gX_6_changes C hX6_change_6_X6 hK hP mX6_change_6_1 dX6_change_25 ?_
    refine lv_iload_n C.1 C.2.1 dX6_change_28 rfl (lv_at hl 2 rfl) ?_
    obtain ⟨hg4, h⟩ := gd_some h
    refine tX_32 C hK hP hJ hS hg4 dX6_change_29 (fun H locs hP hS => ?_)
    obtain ⟨u5, hu6, h⟩ := lt_some h
    rw [← hu6] at hP
    refine lv_aload_n C.1 C.2.1 dX6_change_30 rfl (lv_at hl 0 rfl) ?_
    refine gX_6_changeTo C hX6_change_6_X6 hK hP mX6_change_6_4 dX6_change_31 ?_
    refine lv_aload_n C.1 C.2.1 dX6_change_34 rfl (lv_at hl 0 rfl) ?_
    refine gX_6_changes C hX6_change_6_X6 hK hP mX6_change_6_1 dX6_change_35 ?_
    refine lv_iload_n C.1 C.2.1 dX6_change_38 rfl (lv_at hl 3 rfl) ?_
    obtain ⟨hg7, h⟩ := gd_some h
    refine tX_33 C hK hP hJ hS hg7 dX6_change_39 (fun H locs hP hS => ?_)
    obtain ⟨u8, hu9, h⟩ := lt_some h
    rw [← hu9] at hP
    refine lv_aload_n C.1 C.2.1 dX6_change_40 rfl (lv_at hl 0 rfl) ?_
    refine gX_6_changeDay C hX6_change_6_X6 hK hP mX6_change_6_5 dX6_change_41 ?_
    refine lv_aload_n C.1 C.2.1 dX6_change_44 rfl (lv_at hl 0 rfl) ?_
    refine gX_6_changes C hX6_change_6_X6 hK hP mX6_change_6_1 dX6_change_45 ?_
    refine lv_iload C.1 C.2.1 dX6_change_48 (lv_at hl 4 rfl) ?_
    obtain ⟨hg10, h⟩ := gd_some h
    refine tX_34 C hK hP hJ hS hg10 dX6_change_50 (fun H locs hP hS => ?_)
    obtain ⟨u11, hu12, h⟩ := lt_some h
    rw [← hu12] at hP
    refine lv_aload_n C.1 C.2.1 dX6_change_51 rfl (lv_at hl 0 rfl) ?_
    refine gX_6_cleaned C hX6_change_6_X6 hK hP mX6_change_6_6 dX6_change_52 ?_
    refine lv_aload_n C.1 C.2.1 dX6_change_55 rfl (lv_at hl 0 rfl) ?_
    refine gX_6_changes C hX6_change_6_X6 hK hP mX6_change_6_1 dX6_change_56 ?_
    refine lv_iload C.1 C.2.1 dX6_change_59 (lv_at hl 5 rfl) ?_
    obtain ⟨hg13, h⟩ := gd_some h
    refine tX_35 C hK hP hJ hS hg13 dX6_change_61 (fun H locs hP hS => ?_)
    obtain ⟨u14, hu15, h⟩ := lt_some h
    rw [← hu15] at hP
    refine lv_aload_n C.1 C.2.1 dX6_change_62 rfl (lv_at hl 0 rfl) ?_
    refine lv_dup C.1 C.2.1 dX6_change_63 rfl ?_
    refine gX_6_changes C hX6_change_6_X6 hK hP mX6_change_6_1 dX6_change_64 ?_
    refine lv_iconst (v := 1) C.1 C.2.1 dX6_change_67 (by decide) ?_
    refine lv_iadd C.1 C.2.1 dX6_change_68 ?_
    refine pX_6_changes C hX6_change_6_X6 hK hP hJ hS mX6_change_6_1 dX6_change_69 (fun H locs hP hS => ?_)
    obtain ⟨u16, hu17, h⟩ := lt_some h
    rw [← hu17] at hP
    cases h
    exact rt_v C hP hS dX6_change_72
  · rw [if_neg c6] at h
    cases h
    exact rt_v C hP hS dX6_change_9
theorem metX6_change_6 (l : Launch) (D : va_G) (cy : Nat → ClassId) (ad st : Nat → Nat) (hJ : JX ad st) (sz : Nat) (x1 : Int32) (x2 : Int32) (x3 : Int32) (x4 : Int32) (x5 : Int32) {u : SX} {r : Int32} {u' : SX} (h : fX6_change_6 x1 x2 x3 x4 x5 u = some (r, u')) : Met l yX6_change wsX6_change rmX6_change_6 (va_Pc [.ref (ad 6), .int x1, .int x2, .int x3, .int x4, .int x5] (Px D [(cy 0, .int), (cy 1, .long), (cy 2, .boolean), (cy 3, .byte), (cy 4, .object "HissHorn$Text")] st (VX cy ad st) sz u)) (Qv D (VX cy ad st) (AX ad) sz r u') 0 0 (Ax (AX ad) sz) := by
  refine Met.ofW (cc := cX6_change) (maxL := 6) (ret := none) (by decide) rfl ?_
  intro p e s m args below meth c s₁ B hml hv
  obtain ⟨rfl, hsz, hP, hK⟩ := hv
  subst hsz
  have C : Cx RX6 cX6_change 6 none wsX6_change p s m _ meth c := ⟨B.exec, B.bytes, hml, B.returns, findClass_of_methodNamed B.named, atoms_spec (ws := wsX6_change) B.pre, B.notSynchronized⟩
  have hl := lv_entry ([.ref (ad 6), .int x1, .int x2, .int x3, .int x4, .int x5]) (n := 6) (Nat.le_of_ble_eq_true rfl)
  rw [lg_entry_eq]
  exact wX6_change_6 C hK hJ x1 x2 x3 x4 x5 h hP va_S.rf hl

theorem zdX3_carryOut_0 : (and (and (and (and (and (zk cX3_carryOut 0 (.aload_n 0) 1) (zk cX3_carryOut 1 (.getfield 9) 3)) (and (zk cX3_carryOut 4 (.iload_n 1) 1) (zk cX3_carryOut 5 (.iaload) 1))) (and (and (zk cX3_carryOut 6 (.istore_n 3) 1) (zk cX3_carryOut 7 (.aload_n 0) 1)) (and (zk cX3_carryOut 8 (.getfield 49) 3) (zk cX3_carryOut 11 (.iload_n 2) 1)))) (and (and (and (zk cX3_carryOut 12 (.invokevirtual 57) 3) (zk cX3_carryOut 15 (.aload_n 0) 1)) (and (zk cX3_carryOut 16 (.getfield 27) 3) (zk cX3_carryOut 19 (.iload_n 1) 1))) (and (and (zk cX3_carryOut 20 (.aload_n 0) 1) (zk cX3_carryOut 21 (.getfield 49) 3)) (and (zk cX3_carryOut 24 (.getfield 63) 3) (zk cX3_carryOut 27 (.iload_n 3) 1))))) (and (and (and (and (zk cX3_carryOut 28 (.iaload) 1) (zk cX3_carryOut 29 (.iastore) 1)) (and (zk cX3_carryOut 30 (.aload_n 0) 1) (zk cX3_carryOut 31 (.getfield 30) 3))) (and (and (zk cX3_carryOut 34 (.iload_n 1) 1) (zk cX3_carryOut 35 (.aload_n 0) 1)) (and (zk cX3_carryOut 36 (.getfield 49) 3) (zk cX3_carryOut 39 (.getfield 66) 3)))) (and (and (and (zk cX3_carryOut 42 (.iload_n 3) 1) (zk cX3_carryOut 43 (.iaload) 1)) (and (zk cX3_carryOut 44 (.iastore) 1) (zk cX3_carryOut 45 (.aload_n 0) 1))) (and (and (zk cX3_carryOut 46 (.getfield 49) 3) (zk cX3_carryOut 49 (.iload_n 3) 1)) (and (zk cX3_carryOut 50 (.aload_n 0) 1) (zk cX3_carryOut 51 (.getfield 15) 3)))))) = true := by decide +kernel
theorem dX3_carryOut_0 : decode cX3_carryOut 0 = .ok (.aload_n 0, 1) := zk_of (zk_l (zk_l (zk_l (zk_l (zk_l zdX3_carryOut_0)))))
theorem dX3_carryOut_1 : decode cX3_carryOut 1 = .ok (.getfield 9, 3) := zk_of (zk_r (zk_l (zk_l (zk_l (zk_l zdX3_carryOut_0)))))
theorem dX3_carryOut_4 : decode cX3_carryOut 4 = .ok (.iload_n 1, 1) := zk_of (zk_l (zk_r (zk_l (zk_l (zk_l zdX3_carryOut_0)))))
theorem dX3_carryOut_5 : decode cX3_carryOut 5 = .ok (.iaload, 1) := zk_of (zk_r (zk_r (zk_l (zk_l (zk_l zdX3_carryOut_0)))))
theorem dX3_carryOut_6 : decode cX3_carryOut 6 = .ok (.istore_n 3, 1) := zk_of (zk_l (zk_l (zk_r (zk_l (zk_l zdX3_carryOut_0)))))
theorem dX3_carryOut_7 : decode cX3_carryOut 7 = .ok (.aload_n 0, 1) := zk_of (zk_r (zk_l (zk_r (zk_l (zk_l zdX3_carryOut_0)))))
theorem dX3_carryOut_8 : decode cX3_carryOut 8 = .ok (.getfield 49, 3) := zk_of (zk_l (zk_r (zk_r (zk_l (zk_l zdX3_carryOut_0)))))
theorem dX3_carryOut_11 : decode cX3_carryOut 11 = .ok (.iload_n 2, 1) := zk_of (zk_r (zk_r (zk_r (zk_l (zk_l zdX3_carryOut_0)))))
theorem dX3_carryOut_12 : decode cX3_carryOut 12 = .ok (.invokevirtual 57, 3) := zk_of (zk_l (zk_l (zk_l (zk_r (zk_l zdX3_carryOut_0)))))
theorem dX3_carryOut_15 : decode cX3_carryOut 15 = .ok (.aload_n 0, 1) := zk_of (zk_r (zk_l (zk_l (zk_r (zk_l zdX3_carryOut_0)))))
theorem dX3_carryOut_16 : decode cX3_carryOut 16 = .ok (.getfield 27, 3) := zk_of (zk_l (zk_r (zk_l (zk_r (zk_l zdX3_carryOut_0)))))
theorem dX3_carryOut_19 : decode cX3_carryOut 19 = .ok (.iload_n 1, 1) := zk_of (zk_r (zk_r (zk_l (zk_r (zk_l zdX3_carryOut_0)))))
theorem dX3_carryOut_20 : decode cX3_carryOut 20 = .ok (.aload_n 0, 1) := zk_of (zk_l (zk_l (zk_r (zk_r (zk_l zdX3_carryOut_0)))))
theorem dX3_carryOut_21 : decode cX3_carryOut 21 = .ok (.getfield 49, 3) := zk_of (zk_r (zk_l (zk_r (zk_r (zk_l zdX3_carryOut_0)))))
theorem dX3_carryOut_24 : decode cX3_carryOut 24 = .ok (.getfield 63, 3) := zk_of (zk_l (zk_r (zk_r (zk_r (zk_l zdX3_carryOut_0)))))
theorem dX3_carryOut_27 : decode cX3_carryOut 27 = .ok (.iload_n 3, 1) := zk_of (zk_r (zk_r (zk_r (zk_r (zk_l zdX3_carryOut_0)))))
theorem dX3_carryOut_28 : decode cX3_carryOut 28 = .ok (.iaload, 1) := zk_of (zk_l (zk_l (zk_l (zk_l (zk_r zdX3_carryOut_0)))))
theorem dX3_carryOut_29 : decode cX3_carryOut 29 = .ok (.iastore, 1) := zk_of (zk_r (zk_l (zk_l (zk_l (zk_r zdX3_carryOut_0)))))
theorem dX3_carryOut_30 : decode cX3_carryOut 30 = .ok (.aload_n 0, 1) := zk_of (zk_l (zk_r (zk_l (zk_l (zk_r zdX3_carryOut_0)))))
theorem dX3_carryOut_31 : decode cX3_carryOut 31 = .ok (.getfield 30, 3) := zk_of (zk_r (zk_r (zk_l (zk_l (zk_r zdX3_carryOut_0)))))
theorem dX3_carryOut_34 : decode cX3_carryOut 34 = .ok (.iload_n 1, 1) := zk_of (zk_l (zk_l (zk_r (zk_l (zk_r zdX3_carryOut_0)))))
theorem dX3_carryOut_35 : decode cX3_carryOut 35 = .ok (.aload_n 0, 1) := zk_of (zk_r (zk_l (zk_r (zk_l (zk_r zdX3_carryOut_0)))))
theorem dX3_carryOut_36 : decode cX3_carryOut 36 = .ok (.getfield 49, 3) := zk_of (zk_l (zk_r (zk_r (zk_l (zk_r zdX3_carryOut_0)))))
theorem dX3_carryOut_39 : decode cX3_carryOut 39 = .ok (.getfield 66, 3) := zk_of (zk_r (zk_r (zk_r (zk_l (zk_r zdX3_carryOut_0)))))
theorem dX3_carryOut_42 : decode cX3_carryOut 42 = .ok (.iload_n 3, 1) := zk_of (zk_l (zk_l (zk_l (zk_r (zk_r zdX3_carryOut_0)))))
theorem dX3_carryOut_43 : decode cX3_carryOut 43 = .ok (.iaload, 1) := zk_of (zk_r (zk_l (zk_l (zk_r (zk_r zdX3_carryOut_0)))))
theorem dX3_carryOut_44 : decode cX3_carryOut 44 = .ok (.iastore, 1) := zk_of (zk_l (zk_r (zk_l (zk_r (zk_r zdX3_carryOut_0)))))
theorem dX3_carryOut_45 : decode cX3_carryOut 45 = .ok (.aload_n 0, 1) := zk_of (zk_r (zk_r (zk_l (zk_r (zk_r zdX3_carryOut_0)))))
theorem dX3_carryOut_46 : decode cX3_carryOut 46 = .ok (.getfield 49, 3) := zk_of (zk_l (zk_l (zk_r (zk_r (zk_r zdX3_carryOut_0)))))
theorem dX3_carryOut_49 : decode cX3_carryOut 49 = .ok (.iload_n 3, 1) := zk_of (zk_r (zk_l (zk_r (zk_r (zk_r zdX3_carryOut_0)))))
theorem dX3_carryOut_50 : decode cX3_carryOut 50 = .ok (.aload_n 0, 1) := zk_of (zk_l (zk_r (zk_r (zk_r (zk_r zdX3_carryOut_0)))))
theorem dX3_carryOut_51 : decode cX3_carryOut 51 = .ok (.getfield 15, 3) := zk_of (zk_r (zk_r (zk_r (zk_r (zk_r zdX3_carryOut_0)))))
set_option maxRecDepth 20000 in
theorem ggX3_carryOut_X6_recall : GoodIn wsX3_carryOut wsX6_recall := ggi (fun w h => List.mem_cons_of_mem _ (List.mem_append_left _ (List.mem_append_left _ (List.mem_append_right _ (List.mem_append_left _ h))))) gs_X6_recall
set_option maxRecDepth 20000 in
theorem gX3_carryOut_X6_recall : GoodIn wsX3_carryOut (wsV RX3 57 RX6 yX6_recall wsX6_recall) := goodIn_app (goodIn_of _ (by decide +kernel)) ggX3_carryOut_X6_recall
theorem zdX3_carryOut_54 : (and (and (and (and (and (zk cX3_carryOut 54 (.iload_n 1) 1) (zk cX3_carryOut 55 (.iaload) 1)) (and (zk cX3_carryOut 56 (.aload_n 0) 1) (zk cX3_carryOut 57 (.getfield 18) 3))) (and (and (zk cX3_carryOut 60 (.iload_n 1) 1) (zk cX3_carryOut 61 (.iaload) 1)) (and (zk cX3_carryOut 62 (.iload_n 2) 1) (zk cX3_carryOut 63 (.iconst 0) 1)))) (and (and (and (zk cX3_carryOut 64 (.invokevirtual 69) 3) (zk cX3_carryOut 67 (.aload_n 0) 1)) (and (zk cX3_carryOut 68 (.getfield 49) 3) (zk cX3_carryOut 71 (.iload_n 2) 1))) (and (and (zk cX3_carryOut 72 (.invokevirtual 57) 3) (zk cX3_carryOut 75 (.aload_n 0) 1)) (and (zk cX3_carryOut 76 (.getfield 33) 3) (zk cX3_carryOut 79 (.iload_n 1) 1))))) (and (and (and (and (zk cX3_carryOut 80 (.aload_n 0) 1) (zk cX3_carryOut 81 (.getfield 49) 3)) (and (zk cX3_carryOut 84 (.getfield 63) 3) (zk cX3_carryOut 87 (.iload_n 3) 1))) (and (and (zk cX3_carryOut 88 (.iaload) 1) (zk cX3_carryOut 89 (.iastore) 1)) (and (zk cX3_carryOut 90 (.aload_n 0) 1) (zk cX3_carryOut 91 (.getfield 36) 3)))) (and (and (and (zk cX3_carryOut 94 (.iload_n 1) 1) (zk cX3_carryOut 95 (.aload_n 0) 1)) (and (zk cX3_carryOut 96 (.getfield 49) 3) (zk cX3_carryOut 99 (.getfield 66) 3))) (and (and (zk cX3_carryOut 102 (.iload_n 3) 1) (zk cX3_carryOut 103 (.iaload) 1)) (and (zk cX3_carryOut 104 (.iastore) 1) (zk cX3_carryOut 105 (.aload_n 0) 1)))))) = true := by decide +kernel
theorem dX3_carryOut_54 : decode cX3_carryOut 54 = .ok (.iload_n 1, 1) := zk_of (zk_l (zk_l (zk_l (zk_l (zk_l zdX3_carryOut_54)))))
theorem dX3_carryOut_55 : decode cX3_carryOut 55 = .ok (.iaload, 1) := zk_of (zk_r (zk_l (zk_l (zk_l (zk_l zdX3_carryOut_54)))))
theorem dX3_carryOut_56 : decode cX3_carryOut 56 = .ok (.aload_n 0, 1) := zk_of (zk_l (zk_r (zk_l (zk_l (zk_l zdX3_carryOut_54)))))
theorem dX3_carryOut_57 : decode cX3_carryOut 57 = .ok (.getfield 18, 3) := zk_of (zk_r (zk_r (zk_l (zk_l (zk_l zdX3_carryOut_54)))))
theorem dX3_carryOut_60 : decode cX3_carryOut 60 = .ok (.iload_n 1, 1) := zk_of (zk_l (zk_l (zk_r (zk_l (zk_l zdX3_carryOut_54)))))
theorem dX3_carryOut_61 : decode cX3_carryOut 61 = .ok (.iaload, 1) := zk_of (zk_r (zk_l (zk_r (zk_l (zk_l zdX3_carryOut_54)))))
theorem dX3_carryOut_62 : decode cX3_carryOut 62 = .ok (.iload_n 2, 1) := zk_of (zk_l (zk_r (zk_r (zk_l (zk_l zdX3_carryOut_54)))))
theorem dX3_carryOut_63 : decode cX3_carryOut 63 = .ok (.iconst 0, 1) := zk_of (zk_r (zk_r (zk_r (zk_l (zk_l zdX3_carryOut_54)))))
theorem dX3_carryOut_64 : decode cX3_carryOut 64 = .ok (.invokevirtual 69, 3) := zk_of (zk_l (zk_l (zk_l (zk_r (zk_l zdX3_carryOut_54)))))
theorem dX3_carryOut_67 : decode cX3_carryOut 67 = .ok (.aload_n 0, 1) := zk_of (zk_r (zk_l (zk_l (zk_r (zk_l zdX3_carryOut_54)))))
theorem dX3_carryOut_68 : decode cX3_carryOut 68 = .ok (.getfield 49, 3) := zk_of (zk_l (zk_r (zk_l (zk_r (zk_l zdX3_carryOut_54)))))
theorem dX3_carryOut_71 : decode cX3_carryOut 71 = .ok (.iload_n 2, 1) := zk_of (zk_r (zk_r (zk_l (zk_r (zk_l zdX3_carryOut_54)))))
theorem dX3_carryOut_72 : decode cX3_carryOut 72 = .ok (.invokevirtual 57, 3) := zk_of (zk_l (zk_l (zk_r (zk_r (zk_l zdX3_carryOut_54)))))
theorem dX3_carryOut_75 : decode cX3_carryOut 75 = .ok (.aload_n 0, 1) := zk_of (zk_r (zk_l (zk_r (zk_r (zk_l zdX3_carryOut_54)))))
theorem dX3_carryOut_76 : decode cX3_carryOut 76 = .ok (.getfield 33, 3) := zk_of (zk_l (zk_r (zk_r (zk_r (zk_l zdX3_carryOut_54)))))
theorem dX3_carryOut_79 : decode cX3_carryOut 79 = .ok (.iload_n 1, 1) := zk_of (zk_r (zk_r (zk_r (zk_r (zk_l zdX3_carryOut_54)))))
theorem dX3_carryOut_80 : decode cX3_carryOut 80 = .ok (.aload_n 0, 1) := zk_of (zk_l (zk_l (zk_l (zk_l (zk_r zdX3_carryOut_54)))))
theorem dX3_carryOut_81 : decode cX3_carryOut 81 = .ok (.getfield 49, 3) := zk_of (zk_r (zk_l (zk_l (zk_l (zk_r zdX3_carryOut_54)))))
theorem dX3_carryOut_84 : decode cX3_carryOut 84 = .ok (.getfield 63, 3) := zk_of (zk_l (zk_r (zk_l (zk_l (zk_r zdX3_carryOut_54)))))
theorem dX3_carryOut_87 : decode cX3_carryOut 87 = .ok (.iload_n 3, 1) := zk_of (zk_r (zk_r (zk_l (zk_l (zk_r zdX3_carryOut_54)))))
theorem dX3_carryOut_88 : decode cX3_carryOut 88 = .ok (.iaload, 1) := zk_of (zk_l (zk_l (zk_r (zk_l (zk_r zdX3_carryOut_54)))))
theorem dX3_carryOut_89 : decode cX3_carryOut 89 = .ok (.iastore, 1) := zk_of (zk_r (zk_l (zk_r (zk_l (zk_r zdX3_carryOut_54)))))
theorem dX3_carryOut_90 : decode cX3_carryOut 90 = .ok (.aload_n 0, 1) := zk_of (zk_l (zk_r (zk_r (zk_l (zk_r zdX3_carryOut_54)))))
theorem dX3_carryOut_91 : decode cX3_carryOut 91 = .ok (.getfield 36, 3) := zk_of (zk_r (zk_r (zk_r (zk_l (zk_r zdX3_carryOut_54)))))
theorem dX3_carryOut_94 : decode cX3_carryOut 94 = .ok (.iload_n 1, 1) := zk_of (zk_l (zk_l (zk_l (zk_r (zk_r zdX3_carryOut_54)))))
theorem dX3_carryOut_95 : decode cX3_carryOut 95 = .ok (.aload_n 0, 1) := zk_of (zk_r (zk_l (zk_l (zk_r (zk_r zdX3_carryOut_54)))))
theorem dX3_carryOut_96 : decode cX3_carryOut 96 = .ok (.getfield 49, 3) := zk_of (zk_l (zk_r (zk_l (zk_r (zk_r zdX3_carryOut_54)))))
theorem dX3_carryOut_99 : decode cX3_carryOut 99 = .ok (.getfield 66, 3) := zk_of (zk_r (zk_r (zk_l (zk_r (zk_r zdX3_carryOut_54)))))
theorem dX3_carryOut_102 : decode cX3_carryOut 102 = .ok (.iload_n 3, 1) := zk_of (zk_l (zk_l (zk_r (zk_r (zk_r zdX3_carryOut_54)))))
theorem dX3_carryOut_103 : decode cX3_carryOut 103 = .ok (.iaload, 1) := zk_of (zk_r (zk_l (zk_r (zk_r (zk_r zdX3_carryOut_54)))))
theorem dX3_carryOut_104 : decode cX3_carryOut 104 = .ok (.iastore, 1) := zk_of (zk_l (zk_r (zk_r (zk_r (zk_r zdX3_carryOut_54)))))
theorem dX3_carryOut_105 : decode cX3_carryOut 105 = .ok (.aload_n 0, 1) := zk_of (zk_r (zk_r (zk_r (zk_r (zk_r zdX3_carryOut_54)))))
set_option maxRecDepth 20000 in
theorem ggX3_carryOut_X6_change : GoodIn wsX3_carryOut wsX6_change := ggi (fun w h => List.mem_cons_of_mem _ (List.mem_append_left _ (List.mem_append_left _ (List.mem_append_right _ (List.mem_append_right _ h))))) gs_X6_change
set_option maxRecDepth 20000 in
theorem gX3_carryOut_X6_change : GoodIn wsX3_carryOut (wsV RX3 69 RX6 yX6_change wsX6_change) := goodIn_app (goodIn_of _ (by decide +kernel)) ggX3_carryOut_X6_change
theorem zdX3_carryOut_106 : (and (and (and (zk cX3_carryOut 106 (.getfield 24) 3) (zk cX3_carryOut 109 (.iload_n 1) 1)) (zk cX3_carryOut 110 (.iload_n 2) 1)) (and (zk cX3_carryOut 111 (.iastore) 1) (zk cX3_carryOut 112 (.return_) 1))) = true := by decide +kernel
theorem dX3_carryOut_106 : decode cX3_carryOut 106 = .ok (.getfield 24, 3) := zk_of (zk_l (zk_l (zk_l zdX3_carryOut_106)))
theorem dX3_carryOut_109 : decode cX3_carryOut 109 = .ok (.iload_n 1, 1) := zk_of (zk_r (zk_l (zk_l zdX3_carryOut_106)))
theorem dX3_carryOut_110 : decode cX3_carryOut 110 = .ok (.iload_n 2, 1) := zk_of (zk_r (zk_l zdX3_carryOut_106))
theorem dX3_carryOut_111 : decode cX3_carryOut 111 = .ok (.iastore, 1) := zk_of (zk_l (zk_r zdX3_carryOut_106))
theorem dX3_carryOut_112 : decode cX3_carryOut 112 = .ok (.return_, 1) := zk_of (zk_r (zk_r zdX3_carryOut_106))
/-- HissHorn$Looks.carryOut(II)V of cell 10 -/
def rmX3_carryOut_10 : Room := { frames := 3, cells := 0, slots := 0, locals := 72 }
theorem hX3_carryOut_10_X3 : ∀ w ∈ u_ws RX3 TX3 19, w ∈ wsX3_carryOut := fun w h => (List.mem_cons_of_mem _ (List.mem_append_left _ (List.mem_append_right _ h)))
theorem mX3_carryOut_10_1 : Cond.fieldLink RX3 9 "HissHorn$Looks" "part" "[I" ∈ wsX3_carryOut := (List.mem_cons_of_mem _ (List.mem_append_left _ (List.mem_append_left _ (List.mem_append_left _ (List.mem_of_getElem? (i := 7) rfl)))))
theorem mX3_carryOut_10_2 : Cond.fieldLink RX3 49 "HissHorn$Looks" "parts" "LHissHorn$Parts;" ∈ wsX3_carryOut := (List.mem_cons_of_mem _ (List.mem_append_left _ (List.mem_append_left _ (List.mem_append_left _ (List.mem_of_getElem? (i := 8) rfl)))))
theorem mX3_carryOut_10_3 : Cond.fieldLink RX3 27 "HissHorn$Looks" "aheadFrom" "[I" ∈ wsX3_carryOut := (List.mem_cons_of_mem _ (List.mem_append_left _ (List.mem_append_left _ (List.mem_append_left _ (List.mem_of_getElem? (i := 9) rfl)))))
theorem hX3_carryOut_10_X6 : ∀ w ∈ u_ws RX6 TX6 17, w ∈ wsX3_carryOut := fun w h => (List.mem_cons_of_mem _ (List.mem_append_right _ h))
theorem mX3_carryOut_10_5 : Cond.fieldLink RX3 63 "HissHorn$Parts" "low" "[I" ∈ wsX3_carryOut := (List.mem_cons_of_mem _ (List.mem_append_left _ (List.mem_append_left _ (List.mem_append_left _ (List.mem_of_getElem? (i := 10) rfl)))))
theorem mX3_carryOut_10_6 : Cond.fieldLink RX3 30 "HissHorn$Looks" "aheadTo" "[I" ∈ wsX3_carryOut := (List.mem_cons_of_mem _ (List.mem_append_left _ (List.mem_append_left _ (List.mem_append_left _ (List.mem_of_getElem? (i := 11) rfl)))))
theorem mX3_carryOut_10_7 : Cond.fieldLink RX3 66 "HissHorn$Parts" "high" "[I" ∈ wsX3_carryOut := (List.mem_cons_of_mem _ (List.mem_append_left _ (List.mem_append_left _ (List.mem_append_left _ (List.mem_of_getElem? (i := 12) rfl)))))
theorem mX3_carryOut_10_8 : Cond.fieldLink RX3 15 "HissHorn$Looks" "from" "[I" ∈ wsX3_carryOut := (List.mem_cons_of_mem _ (List.mem_append_left _ (List.mem_append_left _ (List.mem_append_left _ (List.mem_of_getElem? (i := 13) rfl)))))
theorem mX3_carryOut_10_9 : Cond.fieldLink RX3 18 "HissHorn$Looks" "to" "[I" ∈ wsX3_carryOut := (List.mem_cons_of_mem _ (List.mem_append_left _ (List.mem_append_left _ (List.mem_append_left _ (List.mem_of_getElem? (i := 14) rfl)))))
theorem mX3_carryOut_10_10 : Cond.fieldLink RX3 33 "HissHorn$Looks" "behindFrom" "[I" ∈ wsX3_carryOut := (List.mem_cons_of_mem _ (List.mem_append_left _ (List.mem_append_left _ (List.mem_append_left _ (List.mem_of_getElem? (i := 15) rfl)))))
theorem mX3_carryOut_10_11 : Cond.fieldLink RX3 36 "HissHorn$Looks" "behindTo" "[I" ∈ wsX3_carryOut := (List.mem_cons_of_mem _ (List.mem_append_left _ (List.mem_append_left _ (List.mem_append_left _ (List.mem_of_getElem? (i := 16) rfl)))))
theorem mX3_carryOut_10_12 : Cond.fieldLink RX3 24 "HissHorn$Looks" "doneDay" "[I" ∈ wsX3_carryOut := (List.mem_cons_of_mem _ (List.mem_append_left _ (List.mem_append_left _ (List.mem_append_left _ (List.mem_of_getElem? (i := 17) rfl)))))
def fX3_carryOut_10 (x1 : Int32) (x2 : Int32) (u : SX) : Option (Int32 × SX) := (gd (inb x1 10) (lt (u.2.1 48 x1.toNatClampNeg) fun v2 => ((fX6_recall_6 x2 u).bind fun q => match q with | (r4, u5) => (gd (inb v2 12) (gd (inb x1 10) (lt (sA u5 53 (upd (u5.2.1 53) x1.toNatClampNeg (u5.2.1 27 v2.toNatClampNeg))) fun u9 => (gd (inb v2 12) (gd (inb x1 10) (lt (sA u9 54 (upd (u9.2.1 54) x1.toNatClampNeg (u9.2.1 28 v2.toNatClampNeg))) fun u13 => (gd (inb x1 10) (gd (inb x1 10) ((fX6_change_6 v2 (u13.2.1 49 x1.toNatClampNeg) (u13.2.1 50 x1.toNatClampNeg) x2 0 u13).bind fun q => match q with | (r17, u18) => ((fX6_recall_6 x2 u18).bind fun q => match q with | (r20, u21) => (gd (inb v2 12) (gd (inb x1 10) (lt (sA u21 55 (upd (u21.2.1 55) x1.toNatClampNeg (u21.2.1 27 v2.toNatClampNeg))) fun u25 => (gd (inb v2 12) (gd (inb x1 10) (lt (sA u25 56 (upd (u25.2.1 56) x1.toNatClampNeg (u25.2.1 28 v2.toNatClampNeg))) fun u29 => (gd (inb x1 10) (lt (sA u29 52 (upd (u29.2.1 52) x1.toNatClampNeg x2)) fun u32 => (some (0, u32)))))))))))))))))))))))
set_option maxHeartbeats 4000000 in
set_option maxRecDepth 100000 in
theorem wX3_carryOut_10 {p : Program} {l : Launch} {e : Env} {s : State} {m : MethodId} {args : Array Value} {below : List Frame} {meth : Method} {c : Code} {D : va_G} {cy : Nat → ClassId} {ad st : Nat → Nat} (C : Cx RX3 cX3_carryOut 4 none wsX3_carryOut p s m args meth c) (hK : Ky D [(cy 0, .int), (cy 1, .long), (cy 2, .boolean), (cy 3, .byte), (cy 4, .object "HissHorn$Text")] st s) (hJ : JX ad st) (x1 : Int32) (x2 : Int32) {u : SX} {r : Int32} {u' : SX} {H : Heap} {locs : List Loc} {ls : Array Slot} (h : fX3_carryOut_10 x1 x2 u = some (r, u')) (hP : va_P D vwCl (VX cy ad st u) H) (hS : va_S (Ax (AX ad) s.heap.size) s.heap H locs) (hl : lv_has ls 4 [(0, .ref (ad 10)), (1, .int x1), (2, .int x2)]) : W p l e rmX3_carryOut_10 s m args below meth c H locs 0 0 (MQ below (Qv D (VX cy ad st) (AX ad) s.heap.size r u') args s 0 0 (Ax (AX ad) s.heap.size)) (F0 m 0 ls []) := by
  unfold fX3_carryOut_10 at h
  refine lv_aload_n C.1 C.2.1 dX3_carryOut_0 rfl (lv_at hl 0 rfl) ?_
  refine gX_10_part C hX3_carryOut_10_X3 hK hP mX3_carryOut_10_1 dX3_carryOut_1 ?_
  refine lv_iload_n C.1 C.2.1 dX3_carryOut_4 rfl (lv_at hl 1 rfl) ?_
  obtain ⟨hg1, h⟩ := gd_some h
  refine lX_48 C hK hP hg1 dX3_carryOut_5 ?_
  refine lv_topi (fun v2 hv3 => ?_)
  replace h := lt_e hv3 h
  try dsimp only at h
  refine lv_istore_n (lv' := [(3, .int v2), (0, .ref (ad 10)), (1, .int x1), (2, .int x2)]) C.1 C.2.1 dX3_carryOut_6 rfl hl (by decide) rfl (fun ls hl => ?_)
  replace hl := lv_sub (l' := [(0, .ref (ad 10)), (1, .int x1), (2, .int x2), (3, .int v2)]) hl [1, 2, 3, 0] rfl
  refine lv_aload_n C.1 C.2.1 dX3_carryOut_7 rfl (lv_at hl 0 rfl) ?_
  refine gX_10_parts C hX3_carryOut_10_X3 hK hP mX3_carryOut_10_2 dX3_carryOut_8 ?_
  refine lv_iload_n C.1 C.2.1 dX3_carryOut_11 rfl (lv_at hl 2 rfl) ?_
  obtain ⟨⟨r4, u5⟩, hc6, h⟩ := bd_some h
  try dsimp only at h
  refine cg_v (As := [.int x2]) (rest := []) (AX_ge hJ) C hK hP hS (metX6_recall_6 l D cy ad st hJ _ x2 hc6) (cwV 1 C.2.2.2.2.2.1 gX3_carryOut_X6_recall rfl rfl rfl (by decide +kernel) ⟨(Nat.le_of_ble_eq_true rfl), (Nat.le_of_ble_eq_true rfl)⟩) 6 6 rfl rfl rfl hl.1 rfl (Nat.le_of_ble_eq_true rfl) dX3_carryOut_12 ⟨Nat.zero_le _, Nat.zero_le _⟩ (fun H locs hP hS => ?_)
  refine lv_aload_n C.1 C.2.1 dX3_carryOut_15 rfl (lv_at hl 0 rfl) ?_
  refine gX_10_aheadFrom C hX3_carryOut_10_X3 hK hP mX3_carryOut_10_3 dX3_carryOut_16 ?_
  refine lv_iload_n C.1 C.2.1 dX3_carryOut_19 rfl (lv_at hl 1 rfl) ?_
  refine lv_aload_n C.1 C.2.1 dX3_carryOut_20 rfl (lv_at hl 0 rfl) ?_
  refine gX_10_parts C hX3_carryOut_10_X3 hK hP mX3_carryOut_10_2 dX3_carryOut_21 ?_
  refine gX_6_low C hX3_carryOut_10_X6 hK hP mX3_carryOut_10_5 dX3_carryOut_24 ?_
  refine lv_iload_n C.1 C.2.1 dX3_carryOut_27 rfl (lv_at hl 3 rfl) ?_
  obtain ⟨hg7, h⟩ := gd_some h
  refine lX_27 C hK hP hg7 dX3_carryOut_28 ?_
  obtain ⟨hg8, h⟩ := gd_some h
  refine tX_53 C hK hP hJ hS hg8 dX3_carryOut_29 (fun H locs hP hS => ?_)
  obtain ⟨u9, hu10, h⟩ := lt_some h
  rw [← hu10] at hP
  refine lv_aload_n C.1 C.2.1 dX3_carryOut_30 rfl (lv_at hl 0 rfl) ?_
  refine gX_10_aheadTo C hX3_carryOut_10_X3 hK hP mX3_carryOut_10_6 dX3_carryOut_31 ?_
  refine lv_iload_n C.1 C.2.1 dX3_carryOut_34 rfl (lv_at hl 1 rfl) ?_
  refine lv_aload_n C.1 C.2.1 dX3_carryOut_35 rfl (lv_at hl 0 rfl) ?_
  refine gX_10_parts C hX3_carryOut_10_X3 hK hP mX3_carryOut_10_2 dX3_carryOut_36 ?_
  refine gX_6_high C hX3_carryOut_10_X6 hK hP mX3_carryOut_10_7 dX3_carryOut_39 ?_
  refine lv_iload_n C.1 C.2.1 dX3_carryOut_42 rfl (lv_at hl 3 rfl) ?_
  obtain ⟨hg11, h⟩ := gd_some h
  refine lX_28 C hK hP hg11 dX3_carryOut_43 ?_
  obtain ⟨hg12, h⟩ := gd_some h
  refine tX_54 C hK hP hJ hS hg12 dX3_carryOut_44 (fun H locs hP hS => ?_)
  obtain ⟨u13, hu14, h⟩ := lt_some h
  rw [← hu14] at hP
  refine lv_aload_n C.1 C.2.1 dX3_carryOut_45 rfl (lv_at hl 0 rfl) ?_
  refine gX_10_parts C hX3_carryOut_10_X3 hK hP mX3_carryOut_10_2 dX3_carryOut_46 ?_
  refine lv_iload_n C.1 C.2.1 dX3_carryOut_49 rfl (lv_at hl 3 rfl) ?_
  refine lv_aload_n C.1 C.2.1 dX3_carryOut_50 rfl (lv_at hl 0 rfl) ?_
  refine gX_10_from C hX3_carryOut_10_X3 hK hP mX3_carryOut_10_8 dX3_carryOut_51 ?_
  refine lv_iload_n C.1 C.2.1 dX3_carryOut_54 rfl (lv_at hl 1 rfl) ?_
  obtain ⟨hg15, h⟩ := gd_some h
  refine lX_49 C hK hP hg15 dX3_carryOut_55 ?_
  refine lv_aload_n C.1 C.2.1 dX3_carryOut_56 rfl (lv_at hl 0 rfl) ?_
  refine gX_10_to C hX3_carryOut_10_X3 hK hP mX3_carryOut_10_9 dX3_carryOut_57 ?_
  refine lv_iload_n C.1 C.2.1 dX3_carryOut_60 rfl (lv_at hl 1 rfl) ?_
  obtain ⟨hg16, h⟩ := gd_some h
  refine lX_50 C hK hP hg16 dX3_carryOut_61 ?_
  refine lv_iload_n C.1 C.2.1 dX3_carryOut_62 rfl (lv_at hl 2 rfl) ?_
  refine lv_iconst (v := 0) C.1 C.2.1 dX3_carryOut_63 (by decide) ?_
  obtain ⟨⟨r17, u18⟩, hc19, h⟩ := bd_some h
  try dsimp only at h
  refine cg_v (As := [.int v2, .int (u13.2.1 49 x1.toNatClampNeg), .int (u13.2.1 50 x1.toNatClampNeg), .int x2, .int 0]) (rest := []) (AX_ge hJ) C hK hP hS (metX6_change_6 l D cy ad st hJ _ v2 (u13.2.1 49 x1.toNatClampNeg) (u13.2.1 50 x1.toNatClampNeg) x2 0 hc19) (cwV 5 C.2.2.2.2.2.1 gX3_carryOut_X6_change rfl rfl rfl (by decide +kernel) ⟨(Nat.le_of_ble_eq_true rfl), (Nat.le_of_ble_eq_true rfl)⟩) 6 6 rfl rfl rfl hl.1 rfl (Nat.le_of_ble_eq_true rfl) dX3_carryOut_64 ⟨Nat.zero_le _, Nat.zero_le _⟩ (fun H locs hP hS => ?_)
  refine lv_aload_n C.1 C.2.1 dX3_carryOut_67 rfl (lv_at hl 0 rfl) ?_
  refine gX_10_parts C hX3_carryOut_10_X3 hK hP mX3_carryOut_10_2 dX3_carryOut_68 ?_
  refine lv_iload_n C.1 C.2.1 dX3_carryOut_71 rfl (lv_at hl 2 rfl) ?_
  obtain ⟨⟨r20, u21⟩, hc22, h⟩ := bd_some h
  try dsimp only at h
  refine cg_v (As := [.int x2]) (rest := []) (AX_ge hJ) C hK hP hS (metX6_recall_6 l D cy ad st hJ _ x2 hc22) (cwV 1 C.2.2.2.2.2.1 gX3_carryOut_X6_recall rfl rfl rfl (by decide +kernel) ⟨(Nat.le_of_ble_eq_true rfl), (Nat.le_of_ble_eq_true rfl)⟩) 6 6 rfl rfl rfl hl.1 rfl (Nat.le_of_ble_eq_true rfl) dX3_carryOut_72 ⟨Nat.zero_le _, Nat.zero_le _⟩ (fun H locs hP hS => ?_)
  refine lv_aload_n C.1 C.2.1 dX3_carryOut_75 rfl (lv_at hl 0 rfl) ?_
  refine gX_10_behindFrom C hX3_carryOut_10_X3 hK hP mX3_carryOut_10_10 dX3_carryOut_76 ?_
  refine lv_iload_n C.1 C.2.1 dX3_carryOut_79 rfl (lv_at hl 1 rfl) ?_
  refine lv_aload_n C.1 C.2.1 dX3_carryOut_80 rfl (lv_at hl 0 rfl) ?_
  refine gX_10_parts C hX3_carryOut_10_X3 hK hP mX3_carryOut_10_2 dX3_carryOut_81 ?_
  refine gX_6_low C hX3_carryOut_10_X6 hK hP mX3_carryOut_10_5 dX3_carryOut_84 ?_
  refine lv_iload_n C.1 C.2.1 dX3_carryOut_87 rfl (lv_at hl 3 rfl) ?_
  obtain ⟨hg23, h⟩ := gd_some h
  refine lX_27 C hK hP hg23 dX3_carryOut_88 ?_
  obtain ⟨hg24, h⟩ := gd_some h
  refine tX_55 C hK hP hJ hS hg24 dX3_carryOut_89 (fun H locs hP hS => ?_)
  obtain ⟨u25, hu26, h⟩ := lt_some h
  rw [← hu26] at hP
  refine lv_aload_n C.1 C.2.1 dX3_carryOut_90 rfl (lv_at hl 0 rfl) ?_
  refine gX_10_behindTo C hX3_carryOut_10_X3 hK hP mX3_carryOut_10_11 dX3_carryOut_91 ?_
  refine lv_iload_n C.1 C.2.1 dX3_carryOut_94 rfl (lv_at hl 1 rfl) ?_
  refine lv_aload_n C.1 C.2.1 dX3_carryOut_95 rfl (lv_at hl 0 rfl) ?_
  refine gX_10_parts C hX3_carryOut_10_X3 hK hP mX3_carryOut_10_2 dX3_carryOut_96 ?_
  refine gX_6_high C hX3_carryOut_10_X6 hK hP mX3_carryOut_10_7 dX3_carryOut_99 ?_
  refine lv_iload_n C.1 C.2.1 dX3_carryOut_102 rfl (lv_at hl 3 rfl) ?_
  obtain ⟨hg27, h⟩ := gd_some h
  refine lX_28 C hK hP hg27 dX3_carryOut_103 ?_
  obtain ⟨hg28, h⟩ := gd_some h
  refine tX_56 C hK hP hJ hS hg28 dX3_carryOut_104 (fun H locs hP hS => ?_)
  obtain ⟨u29, hu30, h⟩ := lt_some h
  rw [← hu30] at hP
  refine lv_aload_n C.1 C.2.1 dX3_carryOut_105 rfl (lv_at hl 0 rfl) ?_
  refine gX_10_doneDay C hX3_carryOut_10_X3 hK hP mX3_carryOut_10_12 dX3_carryOut_106 ?_
  refine lv_iload_n C.1 C.2.1 dX3_carryOut_109 rfl (lv_at hl 1 rfl) ?_
  refine lv_iload_n C.1 C.2.1 dX3_carryOut_110 rfl (lv_at hl 2 rfl) ?_
  obtain ⟨hg31, h⟩ := gd_some h
  refine tX_52 C hK hP hJ hS hg31 dX3_carryOut_111 (fun H locs hP hS => ?_)
  obtain ⟨u32, hu33, h⟩ := lt_some h
  rw [← hu33] at hP
  cases h
  exact rt_v C hP hS dX3_carryOut_112
theorem metX3_carryOut_10 (l : Launch) (D : va_G) (cy : Nat → ClassId) (ad st : Nat → Nat) (hJ : JX ad st) (sz : Nat) (x1 : Int32) (x2 : Int32) {u : SX} {r : Int32} {u' : SX} (h : fX3_carryOut_10 x1 x2 u = some (r, u')) : Met l yX3_carryOut wsX3_carryOut rmX3_carryOut_10 (va_Pc [.ref (ad 10), .int x1, .int x2] (Px D [(cy 0, .int), (cy 1, .long), (cy 2, .boolean), (cy 3, .byte), (cy 4, .object "HissHorn$Text")] st (VX cy ad st) sz u)) (Qv D (VX cy ad st) (AX ad) sz r u') 0 0 (Ax (AX ad) sz) := by
  refine Met.ofW (cc := cX3_carryOut) (maxL := 4) (ret := none) (by decide) rfl ?_
  intro p e s m args below meth c s₁ B hml hv
  obtain ⟨rfl, hsz, hP, hK⟩ := hv
  subst hsz
  have C : Cx RX3 cX3_carryOut 4 none wsX3_carryOut p s m _ meth c := ⟨B.exec, B.bytes, hml, B.returns, findClass_of_methodNamed B.named, atoms_spec (ws := wsX3_carryOut) B.pre, B.notSynchronized⟩
  have hl := lv_entry ([.ref (ad 10), .int x1, .int x2]) (n := 4) (Nat.le_of_ble_eq_true rfl)
  rw [lg_entry_eq]
  exact wX3_carryOut_10 C hK hJ x1 x2 h hP va_S.rf hl

theorem zdX11_done_0 : (and (and (and (and (and (zk cX11_done 0 (.aload_n 0) 1) (zk cX11_done 1 (.getfield 83) 3)) (zk cX11_done 4 (.iload_n 1) 1)) (and (zk cX11_done 5 (.invokevirtual 255) 3) (zk cX11_done 8 (.ifCond .eq 14) 3))) (and (and (and (zk cX11_done 22 (.iconst 0) 1) (zk cX11_done 23 (.ireturn) 1)) (zk cX11_done 11 (.aload_n 0) 1)) (and (zk cX11_done 12 (.getfield 83) 3) (zk cX11_done 15 (.iload_n 1) 1)))) (and (and (and (and (zk cX11_done 16 (.invokevirtual 256) 3) (zk cX11_done 19 (.ifCond .eq 5) 3)) (zk cX11_done 24 (.aload_n 0) 1)) (and (zk cX11_done 25 (.getfield 83) 3) (zk cX11_done 28 (.iload_n 1) 1))) (and (and (and (zk cX11_done 29 (.aload_n 0) 1) (zk cX11_done 30 (.getfield 103) 3)) (zk cX11_done 33 (.invokevirtual 259) 3)) (and (zk cX11_done 36 (.iconst 1) 1) (zk cX11_done 37 (.ireturn) 1))))) = true := by decide +kernel
theorem dX11_done_0 : decode cX11_done 0 = .ok (.aload_n 0, 1) := zk_of (zk_l (zk_l (zk_l (zk_l (zk_l zdX11_done_0)))))
theorem dX11_done_1 : decode cX11_done 1 = .ok (.getfield 83, 3) := zk_of (zk_r (zk_l (zk_l (zk_l (zk_l zdX11_done_0)))))
theorem dX11_done_4 : decode cX11_done 4 = .ok (.iload_n 1, 1) := zk_of (zk_r (zk_l (zk_l (zk_l zdX11_done_0))))
theorem dX11_done_5 : decode cX11_done 5 = .ok (.invokevirtual 255, 3) := zk_of (zk_l (zk_r (zk_l (zk_l zdX11_done_0))))
theorem dX11_done_8 : decode cX11_done 8 = .ok (.ifCond .eq 14, 3) := zk_of (zk_r (zk_r (zk_l (zk_l zdX11_done_0))))
theorem dX11_done_22 : decode cX11_done 22 = .ok (.iconst 0, 1) := zk_of (zk_l (zk_l (zk_l (zk_r (zk_l zdX11_done_0)))))
theorem dX11_done_23 : decode cX11_done 23 = .ok (.ireturn, 1) := zk_of (zk_r (zk_l (zk_l (zk_r (zk_l zdX11_done_0)))))
theorem dX11_done_11 : decode cX11_done 11 = .ok (.aload_n 0, 1) := zk_of (zk_r (zk_l (zk_r (zk_l zdX11_done_0))))
theorem dX11_done_12 : decode cX11_done 12 = .ok (.getfield 83, 3) := zk_of (zk_l (zk_r (zk_r (zk_l zdX11_done_0))))
theorem dX11_done_15 : decode cX11_done 15 = .ok (.iload_n 1, 1) := zk_of (zk_r (zk_r (zk_r (zk_l zdX11_done_0))))
theorem dX11_done_16 : decode cX11_done 16 = .ok (.invokevirtual 256, 3) := zk_of (zk_l (zk_l (zk_l (zk_l (zk_r zdX11_done_0)))))
theorem dX11_done_19 : decode cX11_done 19 = .ok (.ifCond .eq 5, 3) := zk_of (zk_r (zk_l (zk_l (zk_l (zk_r zdX11_done_0)))))
theorem dX11_done_24 : decode cX11_done 24 = .ok (.aload_n 0, 1) := zk_of (zk_r (zk_l (zk_l (zk_r zdX11_done_0))))
theorem dX11_done_25 : decode cX11_done 25 = .ok (.getfield 83, 3) := zk_of (zk_l (zk_r (zk_l (zk_r zdX11_done_0))))
theorem dX11_done_28 : decode cX11_done 28 = .ok (.iload_n 1, 1) := zk_of (zk_r (zk_r (zk_l (zk_r zdX11_done_0))))
theorem dX11_done_29 : decode cX11_done 29 = .ok (.aload_n 0, 1) := zk_of (zk_l (zk_l (zk_l (zk_r (zk_r zdX11_done_0)))))
theorem dX11_done_30 : decode cX11_done 30 = .ok (.getfield 103, 3) := zk_of (zk_r (zk_l (zk_l (zk_r (zk_r zdX11_done_0)))))
theorem dX11_done_33 : decode cX11_done 33 = .ok (.invokevirtual 259, 3) := zk_of (zk_r (zk_l (zk_r (zk_r zdX11_done_0))))
theorem dX11_done_36 : decode cX11_done 36 = .ok (.iconst 1, 1) := zk_of (zk_l (zk_r (zk_r (zk_r zdX11_done_0))))
theorem dX11_done_37 : decode cX11_done 37 = .ok (.ireturn, 1) := zk_of (zk_r (zk_r (zk_r (zk_r zdX11_done_0))))
set_option maxRecDepth 20000 in
theorem ggX11_done_X3_has : GoodIn wsX11_done wsX3_has := ggi (fun w h => List.mem_cons_of_mem _ (List.mem_append_left _ (List.mem_append_left _ (List.mem_append_left _ (List.mem_append_right _ (List.mem_append_left _ h)))))) gs_X3_has
set_option maxRecDepth 20000 in
theorem gX11_done_X3_has : GoodIn wsX11_done (wsV RX11 255 RX3 yX3_has wsX3_has) := goodIn_app (goodIn_of _ (by decide +kernel)) ggX11_done_X3_has
set_option maxRecDepth 20000 in
theorem ggX11_done_X3_isDone : GoodIn wsX11_done wsX3_isDone := ggi (fun w h => List.mem_cons_of_mem _ (List.mem_append_left _ (List.mem_append_left _ (List.mem_append_left _ (List.mem_append_right _ (List.mem_append_right _ (List.mem_append_left _ h))))))) gs_X3_isDone
set_option maxRecDepth 20000 in
theorem gX11_done_X3_isDone : GoodIn wsX11_done (wsV RX11 256 RX3 yX3_isDone wsX3_isDone) := goodIn_app (goodIn_of _ (by decide +kernel)) ggX11_done_X3_isDone
set_option maxRecDepth 20000 in
theorem ggX11_done_X3_carryOut : GoodIn wsX11_done wsX3_carryOut := ggi (fun w h => List.mem_cons_of_mem _ (List.mem_append_left _ (List.mem_append_left _ (List.mem_append_left _ (List.mem_append_right _ (List.mem_append_right _ (List.mem_append_right _ h))))))) gs_X3_carryOut
set_option maxRecDepth 20000 in
theorem gX11_done_X3_carryOut : GoodIn wsX11_done (wsV RX11 259 RX3 yX3_carryOut wsX3_carryOut) := goodIn_app (goodIn_of _ (by decide +kernel)) ggX11_done_X3_carryOut
/-- HissHorn.done(I)Z of cell 0 -/
def rmX11_done_0 : Room := { frames := 4, cells := 0, slots := 0, locals := 95 }
theorem hX11_done_0_X11 : ∀ w ∈ u_ws RX11 TX11 13, w ∈ wsX11_done := fun w h => (List.mem_cons_of_mem _ (List.mem_append_left _ (List.mem_append_left _ (List.mem_append_right _ h))))
theorem mX11_done_0_1 : Cond.fieldLink RX11 83 "HissHorn" "looks" "LHissHorn$Looks;" ∈ wsX11_done := (List.mem_cons_of_mem _ (List.mem_append_left _ (List.mem_append_left _ (List.mem_append_left _ (List.mem_append_left _ (List.mem_of_getElem? (i := 10) rfl))))))
theorem mX11_done_0_2 : Cond.fieldLink RX11 103 "HissHorn" "now" "I" ∈ wsX11_done := (List.mem_cons_of_mem _ (List.mem_append_left _ (List.mem_append_left _ (List.mem_append_left _ (List.mem_append_left _ (List.mem_of_getElem? (i := 11) rfl))))))
def fX11_done_0 (x1 : Int32) (u : SX) : Option (Int32 × SX) := ((fX3_has_10 x1 u).bind fun q => match q with | (r1, u2) => (if r1 = 0 then (gd (isB 0) (some (0, u2))) else ((fX3_isDone_10 x1 u2).bind fun q => match q with | (r5, u6) => (if r5 = 0 then ((fX3_carryOut_10 x1 (u6.1 0) u6).bind fun q => match q with | (r8, u9) => (gd (isB 1) (some (1, u9)))) else (gd (isB 0) (some (0, u6)))))))
set_option maxHeartbeats 4000000 in
set_option maxRecDepth 100000 in
theorem wX11_done_0 {p : Program} {l : Launch} {e : Env} {s : State} {m : MethodId} {args : Array Value} {below : List Frame} {meth : Method} {c : Code} {D : va_G} {cy : Nat → ClassId} {ad st : Nat → Nat} (C : Cx RX11 cX11_done 2 (some .boolean) wsX11_done p s m args meth c) (hK : Ky D [(cy 0, .int), (cy 1, .long), (cy 2, .boolean), (cy 3, .byte), (cy 4, .object "HissHorn$Text")] st s) (hJ : JX ad st) (x1 : Int32) {u : SX} {r : Int32} {u' : SX} {H : Heap} {locs : List Loc} {ls : Array Slot} (h : fX11_done_0 x1 u = some (r, u')) (hP : va_P D vwCl (VX cy ad st u) H) (hS : va_S (Ax (AX ad) s.heap.size) s.heap H locs) (hl : lv_has ls 2 [(0, .ref (ad 0)), (1, .int x1)]) : W p l e rmX11_done_0 s m args below meth c H locs 0 0 (MQ below (Qi D (VX cy ad st) (AX ad) s.heap.size r u') args s 0 0 (Ax (AX ad) s.heap.size)) (F0 m 0 ls []) := by
  unfold fX11_done_0 at h
  refine lv_aload_n C.1 C.2.1 dX11_done_0 rfl (lv_at hl 0 rfl) ?_
  refine gX_0_looks C hX11_done_0_X11 hK hP mX11_done_0_1 dX11_done_1 ?_
  refine lv_iload_n C.1 C.2.1 dX11_done_4 rfl (lv_at hl 1 rfl) ?_
  obtain ⟨⟨r1, u2⟩, hc3, h⟩ := bd_some h
  try dsimp only at h
  refine cg_i (As := [.int x1]) (rest := []) (AX_ge hJ) C hK hP hS (metX3_has_10 l D cy ad st hJ _ x1 hc3) (cwV 1 C.2.2.2.2.2.1 gX11_done_X3_has rfl rfl rfl (by decide +kernel) ⟨(Nat.le_of_ble_eq_true rfl), (Nat.le_of_ble_eq_true rfl)⟩) 10 3 rfl rfl rfl hl.1 rfl (Nat.le_of_ble_eq_true rfl) dX11_done_5 ⟨Nat.zero_le _, Nat.zero_le _⟩ (fun H locs hP hS => ?_)
  refine lv_if_eq (tgt := 22) C.1 C.2.1 dX11_done_8 (by decide) (fun c8 => ?_) (fun c8 => ?_)
  · rw [if_pos c8] at h
    refine lv_iconst (v := 0) C.1 C.2.1 dX11_done_22 (by decide) ?_
    obtain ⟨hg4, h⟩ := gd_some h
    cases h
    exact rt_z hg4 C hP hS dX11_done_23
  · rw [if_neg c8] at h
    refine lv_aload_n C.1 C.2.1 dX11_done_11 rfl (lv_at hl 0 rfl) ?_
    refine gX_0_looks C hX11_done_0_X11 hK hP mX11_done_0_1 dX11_done_12 ?_
    refine lv_iload_n C.1 C.2.1 dX11_done_15 rfl (lv_at hl 1 rfl) ?_
    obtain ⟨⟨r5, u6⟩, hc7, h⟩ := bd_some h
    try dsimp only at h
    refine cg_i (As := [.int x1]) (rest := []) (AX_ge hJ) C hK hP hS (metX3_isDone_10 l D cy ad st hJ _ x1 hc7) (cwV 1 C.2.2.2.2.2.1 gX11_done_X3_isDone rfl rfl rfl (by decide +kernel) ⟨(Nat.le_of_ble_eq_true rfl), (Nat.le_of_ble_eq_true rfl)⟩) 10 3 rfl rfl rfl hl.1 rfl (Nat.le_of_ble_eq_true rfl) dX11_done_16 ⟨Nat.zero_le _, Nat.zero_le _⟩ (fun H locs hP hS => ?_)
    refine lv_if_eq (tgt := 24) C.1 C.2.1 dX11_done_19 (by decide) (fun c19 => ?_) (fun c19 => ?_)
    · rw [if_pos c19] at h
      refine lv_aload_n C.1 C.2.1 dX11_done_24 rfl (lv_at hl 0 rfl) ?_
      refine gX_0_looks C hX11_done_0_X11 hK hP mX11_done_0_1 dX11_done_25 ?_
      refine lv_iload_n C.1 C.2.1 dX11_done_28 rfl (lv_at hl 1 rfl) ?_
      refine lv_aload_n C.1 C.2.1 dX11_done_29 rfl (lv_at hl 0 rfl) ?_
      refine gX_0_now C hX11_done_0_X11 hK hP mX11_done_0_2 dX11_done_30 ?_
      obtain ⟨⟨r8, u9⟩, hc10, h⟩ := bd_some h
      try dsimp only at h
      refine cg_v (As := [.int x1, .int (u6.1 0)]) (rest := []) (AX_ge hJ) C hK hP hS (metX3_carryOut_10 l D cy ad st hJ _ x1 (u6.1 0) hc10) (cwV 2 C.2.2.2.2.2.1 gX11_done_X3_carryOut rfl rfl rfl (by decide +kernel) ⟨(Nat.le_of_ble_eq_true rfl), (Nat.le_of_ble_eq_true rfl)⟩) 10 3 rfl rfl rfl hl.1 rfl (Nat.le_of_ble_eq_true rfl) dX11_done_33 ⟨Nat.zero_le _, Nat.zero_le _⟩ (fun H locs hP hS => ?_)
      refine lv_iconst (v := 1) C.1 C.2.1 dX11_done_36 (by decide) ?_
      obtain ⟨hg11, h⟩ := gd_some h
      cases h
      exact rt_z hg11 C hP hS dX11_done_37
    · rw [if_neg c19] at h
      refine lv_iconst (v := 0) C.1 C.2.1 dX11_done_22 (by decide) ?_
      obtain ⟨hg12, h⟩ := gd_some h
      cases h
      exact rt_z hg12 C hP hS dX11_done_23
theorem metX11_done_0 (l : Launch) (D : va_G) (cy : Nat → ClassId) (ad st : Nat → Nat) (hJ : JX ad st) (sz : Nat) (x1 : Int32) {u : SX} {r : Int32} {u' : SX} (h : fX11_done_0 x1 u = some (r, u')) : Met l yX11_done wsX11_done rmX11_done_0 (va_Pc [.ref (ad 0), .int x1] (Px D [(cy 0, .int), (cy 1, .long), (cy 2, .boolean), (cy 3, .byte), (cy 4, .object "HissHorn$Text")] st (VX cy ad st) sz u)) (Qi D (VX cy ad st) (AX ad) sz r u') 0 0 (Ax (AX ad) sz) := by
  refine Met.ofW (cc := cX11_done) (maxL := 2) (ret := (some .boolean)) (by decide) rfl ?_
  intro p e s m args below meth c s₁ B hml hv
  obtain ⟨rfl, hsz, hP, hK⟩ := hv
  subst hsz
  have C : Cx RX11 cX11_done 2 (some .boolean) wsX11_done p s m _ meth c := ⟨B.exec, B.bytes, hml, B.returns, findClass_of_methodNamed B.named, atoms_spec (ws := wsX11_done) B.pre, B.notSynchronized⟩
  have hl := lv_entry ([.ref (ad 0), .int x1]) (n := 2) (Nat.le_of_ble_eq_true rfl)
  rw [lg_entry_eq]
  exact wX11_done_0 C hK hJ x1 h hP va_S.rf hl

theorem zdX11_clean_36 : (and (and (and (and (and (zk cX11_clean 36 (.istore 5) 2) (zk cX11_clean 38 (.iload 5) 2)) (and (zk cX11_clean 40 (.ifCond .eq 15) 3) (zk cX11_clean 55 (.iconst 0) 1))) (and (and (zk cX11_clean 56 (.ireturn) 1) (zk cX11_clean 43 (.aload_n 0) 1)) (and (zk cX11_clean 44 (.getfield 49) 3) (zk cX11_clean 47 (.getfield 263) 3)))) (and (and (and (zk cX11_clean 50 (.bipush 20) 2) (zk cX11_clean 52 (.if_icmp .lt 5) 3)) (and (zk cX11_clean 57 (.aload_n 0) 1) (zk cX11_clean 58 (.getfield 49) 3))) (and (and (zk cX11_clean 61 (.dup) 1) (zk cX11_clean 62 (.getfield 263) 3)) (and (zk cX11_clean 65 (.iconst 1) 1) (zk cX11_clean 66 (.iadd) 1))))) (and (and (and (and (zk cX11_clean 67 (.putfield 263) 3) (zk cX11_clean 70 (.aload_n 0) 1)) (and (zk cX11_clean 71 (.getfield 49) 3) (zk cX11_clean 74 (.getfield 266) 3))) (and (and (zk cX11_clean 77 (.iload_n 1) 1) (zk cX11_clean 78 (.iload 4) 2)) (and (zk cX11_clean 80 (.iastore) 1) (zk cX11_clean 81 (.aload_n 0) 1)))) (and (and (and (zk cX11_clean 82 (.getfield 49) 3) (zk cX11_clean 85 (.iload_n 1) 1)) (and (zk cX11_clean 86 (.iload_n 2) 1) (zk cX11_clean 87 (.iload_n 3) 1))) (and (and (zk cX11_clean 88 (.aload_n 0) 1) (zk cX11_clean 89 (.getfield 103) 3)) (and (zk cX11_clean 92 (.iconst 1) 1) (zk cX11_clean 93 (.invokevirtual 269) 3)))))) = true := by decide +kernel
theorem dX11_clean_36 : decode cX11_clean 36 = .ok (.istore 5, 2) := zk_of (zk_l (zk_l (zk_l (zk_l (zk_l zdX11_clean_36)))))
theorem dX11_clean_38 : decode cX11_clean 38 = .ok (.iload 5, 2) := zk_of (zk_r (zk_l (zk_l (zk_l (zk_l zdX11_clean_36)))))
theorem dX11_clean_40 : decode cX11_clean 40 = .ok (.ifCond .eq 15, 3) := zk_of (zk_l (zk_r (zk_l (zk_l (zk_l zdX11_clean_36)))))
theorem dX11_clean_55 : decode cX11_clean 55 = .ok (.iconst 0, 1) := zk_of (zk_r (zk_r (zk_l (zk_l (zk_l zdX11_clean_36)))))
theorem dX11_clean_56 : decode cX11_clean 56 = .ok (.ireturn, 1) := zk_of (zk_l (zk_l (zk_r (zk_l (zk_l zdX11_clean_36)))))
theorem dX11_clean_43 : decode cX11_clean 43 = .ok (.aload_n 0, 1) := zk_of (zk_r (zk_l (zk_r (zk_l (zk_l zdX11_clean_36)))))
theorem dX11_clean_44 : decode cX11_clean 44 = .ok (.getfield 49, 3) := zk_of (zk_l (zk_r (zk_r (zk_l (zk_l zdX11_clean_36)))))
theorem dX11_clean_47 : decode cX11_clean 47 = .ok (.getfield 263, 3) := zk_of (zk_r (zk_r (zk_r (zk_l (zk_l zdX11_clean_36)))))
theorem dX11_clean_50 : decode cX11_clean 50 = .ok (.bipush 20, 2) := zk_of (zk_l (zk_l (zk_l (zk_r (zk_l zdX11_clean_36)))))
theorem dX11_clean_52 : decode cX11_clean 52 = .ok (.if_icmp .lt 5, 3) := zk_of (zk_r (zk_l (zk_l (zk_r (zk_l zdX11_clean_36)))))
theorem dX11_clean_57 : decode cX11_clean 57 = .ok (.aload_n 0, 1) := zk_of (zk_l (zk_r (zk_l (zk_r (zk_l zdX11_clean_36)))))
theorem dX11_clean_58 : decode cX11_clean 58 = .ok (.getfield 49, 3) := zk_of (zk_r (zk_r (zk_l (zk_r (zk_l zdX11_clean_36)))))
theorem dX11_clean_61 : decode cX11_clean 61 = .ok (.dup, 1) := zk_of (zk_l (zk_l (zk_r (zk_r (zk_l zdX11_clean_36)))))
theorem dX11_clean_62 : decode cX11_clean 62 = .ok (.getfield 263, 3) := zk_of (zk_r (zk_l (zk_r (zk_r (zk_l zdX11_clean_36)))))
theorem dX11_clean_65 : decode cX11_clean 65 = .ok (.iconst 1, 1) := zk_of (zk_l (zk_r (zk_r (zk_r (zk_l zdX11_clean_36)))))
theorem dX11_clean_66 : decode cX11_clean 66 = .ok (.iadd, 1) := zk_of (zk_r (zk_r (zk_r (zk_r (zk_l zdX11_clean_36)))))
theorem dX11_clean_67 : decode cX11_clean 67 = .ok (.putfield 263, 3) := zk_of (zk_l (zk_l (zk_l (zk_l (zk_r zdX11_clean_36)))))
theorem dX11_clean_70 : decode cX11_clean 70 = .ok (.aload_n 0, 1) := zk_of (zk_r (zk_l (zk_l (zk_l (zk_r zdX11_clean_36)))))
theorem dX11_clean_71 : decode cX11_clean 71 = .ok (.getfield 49, 3) := zk_of (zk_l (zk_r (zk_l (zk_l (zk_r zdX11_clean_36)))))
theorem dX11_clean_74 : decode cX11_clean 74 = .ok (.getfield 266, 3) := zk_of (zk_r (zk_r (zk_l (zk_l (zk_r zdX11_clean_36)))))
theorem dX11_clean_77 : decode cX11_clean 77 = .ok (.iload_n 1, 1) := zk_of (zk_l (zk_l (zk_r (zk_l (zk_r zdX11_clean_36)))))
theorem dX11_clean_78 : decode cX11_clean 78 = .ok (.iload 4, 2) := zk_of (zk_r (zk_l (zk_r (zk_l (zk_r zdX11_clean_36)))))
theorem dX11_clean_80 : decode cX11_clean 80 = .ok (.iastore, 1) := zk_of (zk_l (zk_r (zk_r (zk_l (zk_r zdX11_clean_36)))))
theorem dX11_clean_81 : decode cX11_clean 81 = .ok (.aload_n 0, 1) := zk_of (zk_r (zk_r (zk_r (zk_l (zk_r zdX11_clean_36)))))
theorem dX11_clean_82 : decode cX11_clean 82 = .ok (.getfield 49, 3) := zk_of (zk_l (zk_l (zk_l (zk_r (zk_r zdX11_clean_36)))))
theorem dX11_clean_85 : decode cX11_clean 85 = .ok (.iload_n 1, 1) := zk_of (zk_r (zk_l (zk_l (zk_r (zk_r zdX11_clean_36)))))
theorem dX11_clean_86 : decode cX11_clean 86 = .ok (.iload_n 2, 1) := zk_of (zk_l (zk_r (zk_l (zk_r (zk_r zdX11_clean_36)))))
theorem dX11_clean_87 : decode cX11_clean 87 = .ok (.iload_n 3, 1) := zk_of (zk_r (zk_r (zk_l (zk_r (zk_r zdX11_clean_36)))))
theorem dX11_clean_88 : decode cX11_clean 88 = .ok (.aload_n 0, 1) := zk_of (zk_l (zk_l (zk_r (zk_r (zk_r zdX11_clean_36)))))
theorem dX11_clean_89 : decode cX11_clean 89 = .ok (.getfield 103, 3) := zk_of (zk_r (zk_l (zk_r (zk_r (zk_r zdX11_clean_36)))))
theorem dX11_clean_92 : decode cX11_clean 92 = .ok (.iconst 1, 1) := zk_of (zk_l (zk_r (zk_r (zk_r (zk_r zdX11_clean_36)))))
theorem dX11_clean_93 : decode cX11_clean 93 = .ok (.invokevirtual 269, 3) := zk_of (zk_r (zk_r (zk_r (zk_r (zk_r zdX11_clean_36)))))
set_option maxRecDepth 20000 in
theorem ggX11_clean_X6_change : GoodIn wsX11_clean wsX6_change := ggi (fun w h => List.mem_cons_of_mem _ (List.mem_append_left _ (List.mem_append_left _ (List.mem_append_right _ (List.mem_append_left _ h))))) gs_X6_change
set_option maxRecDepth 20000 in
theorem gX11_clean_X6_change : GoodIn wsX11_clean (wsV RX11 269 RX6 yX6_change wsX6_change) := goodIn_app (goodIn_of _ (by decide +kernel)) ggX11_clean_X6_change
theorem zdX11_clean_96 : (and (and (and (and (and (zk cX11_clean 96 (.iconst 1) 1) (zk cX11_clean 97 (.ireturn) 1)) (zk cX11_clean 35 (.iconst 0) 1)) (and (zk cX11_clean 0 (.aload_n 0) 1) (zk cX11_clean 1 (.getfield 49) 3))) (and (and (and (zk cX11_clean 4 (.iload_n 1) 1) (zk cX11_clean 5 (.invokevirtual 180) 3)) (zk cX11_clean 8 (.ifCond .eq 27) 3)) (and (zk cX11_clean 11 (.iload_n 2) 1) (zk cX11_clean 12 (.iload_n 3) 1)))) (and (and (and (and (zk cX11_clean 13 (.invokestatic 164) 3) (zk cX11_clean 16 (.ifCond .eq 19) 3)) (zk cX11_clean 19 (.iload 4) 2)) (and (zk cX11_clean 21 (.iconst 0) 1) (zk cX11_clean 22 (.sipush 400) 3))) (and (and (zk cX11_clean 25 (.invokestatic 107) 3) (zk cX11_clean 28 (.ifCond .eq 7) 3)) (and (zk cX11_clean 31 (.iconst 1) 1) (zk cX11_clean 32 (.goto 4) 3))))) = true := by decide +kernel
theorem dX11_clean_96 : decode cX11_clean 96 = .ok (.iconst 1, 1) := zk_of (zk_l (zk_l (zk_l (zk_l (zk_l zdX11_clean_96)))))
theorem dX11_clean_97 : decode cX11_clean 97 = .ok (.ireturn, 1) := zk_of (zk_r (zk_l (zk_l (zk_l (zk_l zdX11_clean_96)))))
theorem dX11_clean_35 : decode cX11_clean 35 = .ok (.iconst 0, 1) := zk_of (zk_r (zk_l (zk_l (zk_l zdX11_clean_96))))
theorem dX11_clean_0 : decode cX11_clean 0 = .ok (.aload_n 0, 1) := zk_of (zk_l (zk_r (zk_l (zk_l zdX11_clean_96))))
theorem dX11_clean_1 : decode cX11_clean 1 = .ok (.getfield 49, 3) := zk_of (zk_r (zk_r (zk_l (zk_l zdX11_clean_96))))
theorem dX11_clean_4 : decode cX11_clean 4 = .ok (.iload_n 1, 1) := zk_of (zk_l (zk_l (zk_l (zk_r (zk_l zdX11_clean_96)))))
theorem dX11_clean_5 : decode cX11_clean 5 = .ok (.invokevirtual 180, 3) := zk_of (zk_r (zk_l (zk_l (zk_r (zk_l zdX11_clean_96)))))
theorem dX11_clean_8 : decode cX11_clean 8 = .ok (.ifCond .eq 27, 3) := zk_of (zk_r (zk_l (zk_r (zk_l zdX11_clean_96))))
theorem dX11_clean_11 : decode cX11_clean 11 = .ok (.iload_n 2, 1) := zk_of (zk_l (zk_r (zk_r (zk_l zdX11_clean_96))))
theorem dX11_clean_12 : decode cX11_clean 12 = .ok (.iload_n 3, 1) := zk_of (zk_r (zk_r (zk_r (zk_l zdX11_clean_96))))
theorem dX11_clean_13 : decode cX11_clean 13 = .ok (.invokestatic 164, 3) := zk_of (zk_l (zk_l (zk_l (zk_l (zk_r zdX11_clean_96)))))
theorem dX11_clean_16 : decode cX11_clean 16 = .ok (.ifCond .eq 19, 3) := zk_of (zk_r (zk_l (zk_l (zk_l (zk_r zdX11_clean_96)))))
theorem dX11_clean_19 : decode cX11_clean 19 = .ok (.iload 4, 2) := zk_of (zk_r (zk_l (zk_l (zk_r zdX11_clean_96))))
theorem dX11_clean_21 : decode cX11_clean 21 = .ok (.iconst 0, 1) := zk_of (zk_l (zk_r (zk_l (zk_r zdX11_clean_96))))
theorem dX11_clean_22 : decode cX11_clean 22 = .ok (.sipush 400, 3) := zk_of (zk_r (zk_r (zk_l (zk_r zdX11_clean_96))))
theorem dX11_clean_25 : decode cX11_clean 25 = .ok (.invokestatic 107, 3) := zk_of (zk_l (zk_l (zk_r (zk_r zdX11_clean_96))))
theorem dX11_clean_28 : decode cX11_clean 28 = .ok (.ifCond .eq 7, 3) := zk_of (zk_r (zk_l (zk_r (zk_r zdX11_clean_96))))
theorem dX11_clean_31 : decode cX11_clean 31 = .ok (.iconst 1, 1) := zk_of (zk_l (zk_r (zk_r (zk_r zdX11_clean_96))))
theorem dX11_clean_32 : decode cX11_clean 32 = .ok (.goto 4, 3) := zk_of (zk_r (zk_r (zk_r (zk_r zdX11_clean_96))))
set_option maxRecDepth 20000 in
theorem ggX11_clean_X6_has : GoodIn wsX11_clean wsX6_has := ggi (fun w h => List.mem_cons_of_mem _ (List.mem_append_left _ (List.mem_append_left _ (List.mem_append_right _ (List.mem_append_right _ (List.mem_append_left _ h)))))) gs_X6_has
set_option maxRecDepth 20000 in
theorem gX11_clean_X6_has : GoodIn wsX11_clean (wsV RX11 180 RX6 yX6_has wsX6_has) := goodIn_app (goodIn_of _ (by decide +kernel)) ggX11_clean_X6_has
set_option maxRecDepth 20000 in
theorem ggX11_clean_X11_isLoudness : GoodIn wsX11_clean wsX11_isLoudness := ggi (fun w h => List.mem_cons_of_mem _ (List.mem_append_left _ (List.mem_append_left _ (List.mem_append_right _ (List.mem_append_right _ (List.mem_append_right _ (List.mem_append_left _ h))))))) gs_X11_isLoudness
set_option maxRecDepth 20000 in
theorem gX11_clean_X11_isLoudness : GoodIn wsX11_clean (va_wsS RX11 164 yX11_isLoudness wsX11_isLoudness) := goodIn_app (goodIn_of _ (by decide +kernel)) ggX11_clean_X11_isLoudness
set_option maxRecDepth 20000 in
theorem ggX11_clean_X11_within : GoodIn wsX11_clean wsX11_within := ggi (fun w h => List.mem_cons_of_mem _ (List.mem_append_left _ (List.mem_append_left _ (List.mem_append_right _ (List.mem_append_right _ (List.mem_append_right _ (List.mem_append_right _ h))))))) gs_X11_within
set_option maxRecDepth 20000 in
theorem gX11_clean_X11_within : GoodIn wsX11_clean (va_wsS RX11 107 yX11_within wsX11_within) := goodIn_app (goodIn_of _ (by decide +kernel)) ggX11_clean_X11_within
/-- HissHorn.clean(IIII)Z of cell 0 -/
def rmX11_clean_0 : Room := { frames := 1, cells := 0, slots := 0, locals := 25 }
theorem hX11_clean_0_X11 : ∀ w ∈ u_ws RX11 TX11 13, w ∈ wsX11_clean := fun w h => (List.mem_cons_of_mem _ (List.mem_append_left _ (List.mem_append_right _ h)))
theorem mX11_clean_0_1 : Cond.fieldLink RX11 49 "HissHorn" "parts" "LHissHorn$Parts;" ∈ wsX11_clean := (List.mem_cons_of_mem _ (List.mem_append_left _ (List.mem_append_left _ (List.mem_append_left _ (List.mem_of_getElem? (i := 12) rfl)))))
theorem hX11_clean_0_X6 : ∀ w ∈ u_ws RX6 TX6 17, w ∈ wsX11_clean := fun w h => (List.mem_cons_of_mem _ (List.mem_append_right _ h))
theorem mX11_clean_0_3 : Cond.fieldLink RX11 263 "HissHorn$Parts" "cleanings" "I" ∈ wsX11_clean := (List.mem_cons_of_mem _ (List.mem_append_left _ (List.mem_append_left _ (List.mem_append_left _ (List.mem_of_getElem? (i := 13) rfl)))))
theorem mX11_clean_0_4 : Cond.fieldLink RX11 266 "HissHorn$Parts" "truly" "[I" ∈ wsX11_clean := (List.mem_cons_of_mem _ (List.mem_append_left _ (List.mem_append_left _ (List.mem_append_left _ (List.mem_of_getElem? (i := 14) rfl)))))
theorem mX11_clean_0_5 : Cond.fieldLink RX11 103 "HissHorn" "now" "I" ∈ wsX11_clean := (List.mem_cons_of_mem _ (List.mem_append_left _ (List.mem_append_left _ (List.mem_append_left _ (List.mem_of_getElem? (i := 15) rfl)))))
def GX11_clean_0_36 (z1 : Int32) (z2 : Int32) (z3 : Int32) (z4 : Int32) (y0 : Int32) (u : SX) : Option (Int32 × SX) := (if y0 = 0 then (gd (isB 0) (some (0, u))) else (if (u.1 9) < 20 then (lt (sI u 9 ((u.1 9) + 1)) fun u5 => (gd (inb z1 12) (lt (sA u5 26 (upd (u5.2.1 26) z1.toNatClampNeg z4)) fun u8 => ((fX6_change_6 z1 z2 z3 (u8.1 0) 1 u8).bind fun q => match q with | (r10, u11) => (gd (isB 1) (some (1, u11))))))) else (gd (isB 0) (some (0, u)))))
def GX11_clean_0_35 (z1 : Int32) (z2 : Int32) (z3 : Int32) (z4 : Int32) (u : SX) : Option (Int32 × SX) := (GX11_clean_0_36 z1 z2 z3 z4 0 u)
def fX11_clean_0 (x1 : Int32) (x2 : Int32) (x3 : Int32) (x4 : Int32) (u : SX) : Option (Int32 × SX) := ((fX6_has_6 x1 u).bind fun q => match q with | (r1, u2) => (if r1 = 0 then (GX11_clean_0_35 x1 x2 x3 x4 u2) else ((fX11_isLoudness x2 x3).bind fun r15 => (if r15 = 0 then (GX11_clean_0_35 x1 x2 x3 x4 u2) else ((fX11_within x4 0 400).bind fun r18 => (if r18 = 0 then (GX11_clean_0_35 x1 x2 x3 x4 u2) else (GX11_clean_0_36 x1 x2 x3 x4 1 u2)))))))
set_option maxHeartbeats 4000000 in
set_option maxRecDepth 100000 in
theorem wGX11_clean_0_36 {p : Program} {l : Launch} {e : Env} {s : State} {m : MethodId} {args : Array Value} {below : List Frame} {meth : Method} {c : Code} {D : va_G} {cy : Nat → ClassId} {ad st : Nat → Nat} (C : Cx RX11 cX11_clean 6 (some .boolean) wsX11_clean p s m args meth c) (hK : Ky D [(cy 0, .int), (cy 1, .long), (cy 2, .boolean), (cy 3, .byte), (cy 4, .object "HissHorn$Text")] st s) (hJ : JX ad st) {r : Int32} {u' : SX}   (z1 : Int32) (z2 : Int32) (z3 : Int32) (z4 : Int32) (y0 : Int32) (u : SX) (H : Heap) (locs : List Loc) (ls : Array Slot) (h : GX11_clean_0_36 z1 z2 z3 z4 y0 u = some (r, u')) (hP : va_P D vwCl (VX cy ad st u) H) (hS : va_S (Ax (AX ad) s.heap.size) s.heap H locs) (hl : lv_has ls 6 [(0, .ref (ad 0)), (1, .int z1), (2, .int z2), (3, .int z3), (4, .int z4)]) : W p l e rmX11_clean_0 s m args below meth c H locs 0 0 (MQ below (Qi D (VX cy ad st) (AX ad) s.heap.size r u') args s 0 0 (Ax (AX ad) s.heap.size)) (F0 m 36 ls [.int y0]) := by
  unfold GX11_clean_0_36 at h
  refine lv_istore (lv' := [(5, .int y0), (0, .ref (ad 0)), (1, .int z1), (2, .int z2), (3, .int z3), (4, .int z4)]) C.1 C.2.1 dX11_clean_36 hl (by decide) rfl (fun ls hl => ?_)
  replace hl := lv_sub (l' := [(0, .ref (ad 0)), (1, .int z1), (2, .int z2), (3, .int z3), (4, .int z4), (5, .int y0)]) hl [1, 2, 3, 4, 5, 0] rfl
  refine lv_iload C.1 C.2.1 dX11_clean_38 (lv_at hl 5 rfl) ?_
  refine lv_if_eq (tgt := 55) C.1 C.2.1 dX11_clean_40 (by decide) (fun c40 => ?_) (fun c40 => ?_)
  · rw [if_pos c40] at h
    refine lv_iconst (v := 0) C.1 C.2.1 dX11_clean_55 (by decide) ?_
    obtain ⟨hg4, h⟩ := gd_some h
    cases h
    exact rt_z hg4 C hP hS dX11_clean_56
  · rw [if_neg c40] at h
    refine lv_aload_n C.1 C.2.1 dX11_clean_43 rfl (lv_at hl 0 rfl) ?_
    refine gX_0_parts C hX11_clean_0_X11 hK hP mX11_clean_0_1 dX11_clean_44 ?_
    refine gX_6_cleanings C hX11_clean_0_X6 hK hP mX11_clean_0_3 dX11_clean_47 ?_
    refine lv_bipush (v := 20) C.1 C.2.1 dX11_clean_50 (by decide) ?_
    refine lv_icmp_lt (tgt := 57) C.1 C.2.1 dX11_clean_52 (by decide) (fun c52 => ?_) (fun c52 => ?_)
    · rw [if_pos c52] at h
      refine lv_aload_n C.1 C.2.1 dX11_clean_57 rfl (lv_at hl 0 rfl) ?_
      refine gX_0_parts C hX11_clean_0_X11 hK hP mX11_clean_0_1 dX11_clean_58 ?_
      refine lv_dup C.1 C.2.1 dX11_clean_61 rfl ?_
      refine gX_6_cleanings C hX11_clean_0_X6 hK hP mX11_clean_0_3 dX11_clean_62 ?_
      refine lv_iconst (v := 1) C.1 C.2.1 dX11_clean_65 (by decide) ?_
      refine lv_iadd C.1 C.2.1 dX11_clean_66 ?_
      refine pX_6_cleanings C hX11_clean_0_X6 hK hP hJ hS mX11_clean_0_3 dX11_clean_67 (fun H locs hP hS => ?_)
      obtain ⟨u5, hu6, h⟩ := lt_some h
      rw [← hu6] at hP
      refine lv_aload_n C.1 C.2.1 dX11_clean_70 rfl (lv_at hl 0 rfl) ?_
      refine gX_0_parts C hX11_clean_0_X11 hK hP mX11_clean_0_1 dX11_clean_71 ?_
      refine gX_6_truly C hX11_clean_0_X6 hK hP mX11_clean_0_4 dX11_clean_74 ?_
      refine lv_iload_n C.1 C.2.1 dX11_clean_77 rfl (lv_at hl 1 rfl) ?_
      refine lv_iload C.1 C.2.1 dX11_clean_78 (lv_at hl 4 rfl) ?_
      obtain ⟨hg7, h⟩ := gd_some h
      refine tX_26 C hK hP hJ hS hg7 dX11_clean_80 (fun H locs hP hS => ?_)
      obtain ⟨u8, hu9, h⟩ := lt_some h
      rw [← hu9] at hP
      refine lv_aload_n C.1 C.2.1 dX11_clean_81 rfl (lv_at hl 0 rfl) ?_
      refine gX_0_parts C hX11_clean_0_X11 hK hP mX11_clean_0_1 dX11_clean_82 ?_
      refine lv_iload_n C.1 C.2.1 dX11_clean_85 rfl (lv_at hl 1 rfl) ?_
      refine lv_iload_n C.1 C.2.1 dX11_clean_86 rfl (lv_at hl 2 rfl) ?_
      refine lv_iload_n C.1 C.2.1 dX11_clean_87 rfl (lv_at hl 3 rfl) ?_
      refine lv_aload_n C.1 C.2.1 dX11_clean_88 rfl (lv_at hl 0 rfl) ?_
      refine gX_0_now C hX11_clean_0_X11 hK hP mX11_clean_0_5 dX11_clean_89 ?_
      refine lv_iconst (v := 1) C.1 C.2.1 dX11_clean_92 (by decide) ?_
      obtain ⟨⟨r10, u11⟩, hc12, h⟩ := bd_some h
      try dsimp only at h
      refine cg_v (As := [.int z1, .int z2, .int z3, .int (u8.1 0), .int 1]) (rest := []) (AX_ge hJ) C hK hP hS (metX6_change_6 l D cy ad st hJ _ z1 z2 z3 (u8.1 0) 1 hc12) (cwV 5 C.2.2.2.2.2.1 gX11_clean_X6_change rfl rfl rfl (by decide +kernel) ⟨(Nat.le_of_ble_eq_true rfl), (Nat.le_of_ble_eq_true rfl)⟩) 6 6 rfl rfl rfl hl.1 rfl (Nat.le_of_ble_eq_true rfl) dX11_clean_93 ⟨Nat.zero_le _, Nat.zero_le _⟩ (fun H locs hP hS => ?_)
      refine lv_iconst (v := 1) C.1 C.2.1 dX11_clean_96 (by decide) ?_
      obtain ⟨hg13, h⟩ := gd_some h
      cases h
      exact rt_z hg13 C hP hS dX11_clean_97
    · rw [if_neg c52] at h
      refine lv_iconst (v := 0) C.1 C.2.1 dX11_clean_55 (by decide) ?_
      obtain ⟨hg14, h⟩ := gd_some h
      cases h
      exact rt_z hg14 C hP hS dX11_clean_56
set_option maxHeartbeats 4000000 in
set_option maxRecDepth 100000 in
theorem wGX11_clean_0_35 {p : Program} {l : Launch} {e : Env} {s : State} {m : MethodId} {args : Array Value} {below : List Frame} {meth : Method} {c : Code} {D : va_G} {cy : Nat → ClassId} {ad st : Nat → Nat} (C : Cx RX11 cX11_clean 6 (some .boolean) wsX11_clean p s m args meth c) (hK : Ky D [(cy 0, .int), (cy 1, .long), (cy 2, .boolean), (cy 3, .byte), (cy 4, .object "HissHorn$Text")] st s) (hJ : JX ad st) {r : Int32} {u' : SX}   (z1 : Int32) (z2 : Int32) (z3 : Int32) (z4 : Int32) (u : SX) (H : Heap) (locs : List Loc) (ls : Array Slot) (h : GX11_clean_0_35 z1 z2 z3 z4 u = some (r, u')) (hP : va_P D vwCl (VX cy ad st u) H) (hS : va_S (Ax (AX ad) s.heap.size) s.heap H locs) (hl : lv_has ls 6 [(0, .ref (ad 0)), (1, .int z1), (2, .int z2), (3, .int z3), (4, .int z4)]) : W p l e rmX11_clean_0 s m args below meth c H locs 0 0 (MQ below (Qi D (VX cy ad st) (AX ad) s.heap.size r u') args s 0 0 (Ax (AX ad) s.heap.size)) (F0 m 35 ls []) := by
  unfold GX11_clean_0_35 at h
  refine lv_iconst (v := 0) C.1 C.2.1 dX11_clean_35 (by decide) ?_
  exact wGX11_clean_0_36 C hK hJ _ _ _ _ _ _ _ _ _ h hP hS hl
set_option maxHeartbeats 4000000 in
set_option maxRecDepth 100000 in
theorem wX11_clean_0 {p : Program} {l : Launch} {e : Env} {s : State} {m : MethodId} {args : Array Value} {below : List Frame} {meth : Method} {c : Code} {D : va_G} {cy : Nat → ClassId} {ad st : Nat → Nat} (C : Cx RX11 cX11_clean 6 (some .boolean) wsX11_clean p s m args meth c) (hK : Ky D [(cy 0, .int), (cy 1, .long), (cy 2, .boolean), (cy 3, .byte), (cy 4, .object "HissHorn$Text")] st s) (hJ : JX ad st) (x1 : Int32) (x2 : Int32) (x3 : Int32) (x4 : Int32) {u : SX} {r : Int32} {u' : SX} {H : Heap} {locs : List Loc} {ls : Array Slot} (h : fX11_clean_0 x1 x2 x3 x4 u = some (r, u')) (hP : va_P D vwCl (VX cy ad st u) H) (hS : va_S (Ax (AX ad) s.heap.size) s.heap H locs) (hl : lv_has ls 6 [(0, .ref (ad 0)), (1, .int x1), (2, .int x2), (3, .int x3), (4, .int x4)]) : W p l e rmX11_clean_0 s m args below meth c H locs 0 0 (MQ below (Qi D (VX cy ad st) (AX ad) s.heap.size r u') args s 0 0 (Ax (AX ad) s.heap.size)) (F0 m 0 ls []) := by
  unfold fX11_clean_0 at h
  refine lv_aload_n C.1 C.2.1 dX11_clean_0 rfl (lv_at hl 0 rfl) ?_
  refine gX_0_parts C hX11_clean_0_X11 hK hP mX11_clean_0_1 dX11_clean_1 ?_
  refine lv_iload_n C.1 C.2.1 dX11_clean_4 rfl (lv_at hl 1 rfl) ?_
  obtain ⟨⟨r1, u2⟩, hc3, h⟩ := bd_some h
  try dsimp only at h
  refine cg_i (As := [.int x1]) (rest := []) (AX_ge hJ) C hK hP hS (metX6_has_6 l D cy ad st hJ _ x1 hc3) (cwV 1 C.2.2.2.2.2.1 gX11_clean_X6_has rfl rfl rfl (by decide +kernel) ⟨(Nat.le_of_ble_eq_true rfl), (Nat.le_of_ble_eq_true rfl)⟩) 6 6 rfl rfl rfl hl.1 rfl (Nat.le_of_ble_eq_true rfl) dX11_clean_5 ⟨Nat.zero_le _, Nat.zero_le _⟩ (fun H locs hP hS => ?_)
  refine lv_if_eq (tgt := 35) C.1 C.2.1 dX11_clean_8 (by decide) (fun c8 => ?_) (fun c8 => ?_)
  · rw [if_pos c8] at h
    exact wGX11_clean_0_35 C hK hJ _ _ _ _ _ _ _ _ h hP hS hl
  · rw [if_neg c8] at h
    refine lv_iload_n C.1 C.2.1 dX11_clean_11 rfl (lv_at hl 2 rfl) ?_
    refine lv_iload_n C.1 C.2.1 dX11_clean_12 rfl (lv_at hl 3 rfl) ?_
    obtain ⟨r15, hc17, h⟩ := bd_some h
    refine cs_i (As := [.int x2, .int x3]) (rest := []) (AX_ge hJ) C hK hP hS (metX11_isLoudness l D cy st _ x2 x3 hc17) (va_cwS 2 C.2.2.2.2.2.1 gX11_clean_X11_isLoudness rfl rfl rfl (by decide +kernel) ⟨(Nat.le_of_ble_eq_true rfl), (Nat.le_of_ble_eq_true rfl)⟩) rfl hl.1 rfl (Nat.le_of_ble_eq_true rfl) dX11_clean_13 ⟨Nat.zero_le _, Nat.zero_le _⟩ (fun H locs hP hS => ?_)
    refine lv_if_eq (tgt := 35) C.1 C.2.1 dX11_clean_16 (by decide) (fun c16 => ?_) (fun c16 => ?_)
    · rw [if_pos c16] at h
      exact wGX11_clean_0_35 C hK hJ _ _ _ _ _ _ _ _ h hP hS hl
    · rw [if_neg c16] at h
      refine lv_iload C.1 C.2.1 dX11_clean_19 (lv_at hl 4 rfl) ?_
      refine lv_iconst (v := 0) C.1 C.2.1 dX11_clean_21 (by decide) ?_
      refine lv_sipush (v := 400) C.1 C.2.1 dX11_clean_22 (by decide) ?_
      obtain ⟨r18, hc20, h⟩ := bd_some h
      refine cs_i (As := [.int x4, .int 0, .int 400]) (rest := []) (AX_ge hJ) C hK hP hS (metX11_within l D cy st _ x4 0 400 hc20) (va_cwS 3 C.2.2.2.2.2.1 gX11_clean_X11_within rfl rfl rfl (by decide +kernel) ⟨(Nat.le_of_ble_eq_true rfl), (Nat.le_of_ble_eq_true rfl)⟩) rfl hl.1 rfl (Nat.le_of_ble_eq_true rfl) dX11_clean_25 ⟨Nat.zero_le _, Nat.zero_le _⟩ (fun H locs hP hS => ?_)
      refine lv_if_eq (tgt := 35) C.1 C.2.1 dX11_clean_28 (by decide) (fun c28 => ?_) (fun c28 => ?_)
      · rw [if_pos c28] at h
        exact wGX11_clean_0_35 C hK hJ _ _ _ _ _ _ _ _ h hP hS hl
      · rw [if_neg c28] at h
        refine lv_iconst (v := 1) C.1 C.2.1 dX11_clean_31 (by decide) ?_
        refine lv_goto (tgt := 36) C.1 C.2.1 dX11_clean_32 (by decide) ?_
        exact wGX11_clean_0_36 C hK hJ _ _ _ _ _ _ _ _ _ h hP hS hl
theorem metX11_clean_0 (l : Launch) (D : va_G) (cy : Nat → ClassId) (ad st : Nat → Nat) (hJ : JX ad st) (sz : Nat) (x1 : Int32) (x2 : Int32) (x3 : Int32) (x4 : Int32) {u : SX} {r : Int32} {u' : SX} (h : fX11_clean_0 x1 x2 x3 x4 u = some (r, u')) : Met l yX11_clean wsX11_clean rmX11_clean_0 (va_Pc [.ref (ad 0), .int x1, .int x2, .int x3, .int x4] (Px D [(cy 0, .int), (cy 1, .long), (cy 2, .boolean), (cy 3, .byte), (cy 4, .object "HissHorn$Text")] st (VX cy ad st) sz u)) (Qi D (VX cy ad st) (AX ad) sz r u') 0 0 (Ax (AX ad) sz) := by
  refine Met.ofW (cc := cX11_clean) (maxL := 6) (ret := (some .boolean)) (by decide) rfl ?_
  intro p e s m args below meth c s₁ B hml hv
  obtain ⟨rfl, hsz, hP, hK⟩ := hv
  subst hsz
  have C : Cx RX11 cX11_clean 6 (some .boolean) wsX11_clean p s m _ meth c := ⟨B.exec, B.bytes, hml, B.returns, findClass_of_methodNamed B.named, atoms_spec (ws := wsX11_clean) B.pre, B.notSynchronized⟩
  have hl := lv_entry ([.ref (ad 0), .int x1, .int x2, .int x3, .int x4]) (n := 6) (Nat.le_of_ble_eq_true rfl)
  rw [lg_entry_eq]
  exact wX11_clean_0 C hK hJ x1 x2 x3 x4 h hP va_S.rf hl
