theorem dX11_fits_0 : decode cX11_fits 0 = .ok (.aload_n 0, 1) := by decide +kernel
theorem dX11_fits_1 : decode cX11_fits 1 = .ok (.iload_n 2, 1) := by decide +kernel
set_option maxRecDepth 20000 in
theorem ggX11_fits_X11_isDay : GoodIn wsX11_fits wsX11_isDay := goodIn_r _ [11, 12, 13, 14, 10, 15, 167, 168, 169, 170, 171, 172, 173, 174, 175, 176, 177, 178, 179] (by decide +kernel) (by decide +kernel)
set_option maxRecDepth 20000 in
theorem gX11_fits_X11_isDay : GoodIn wsX11_fits (wsV RX11 174 RX11 yX11_isDay wsX11_isDay) := goodIn_app (goodIn_of _ (by decide +kernel)) ggX11_fits_X11_isDay
theorem dX11_fits_2 : decode cX11_fits 2 = .ok (.invokevirtual 174, 3) := by decide +kernel
theorem dX11_fits_5 : decode cX11_fits 5 = .ok (.ifCond .eq 23, 3) := by decide +kernel
theorem dX11_fits_28 : decode cX11_fits 28 = .ok (.iconst (-1), 1) := by decide +kernel
theorem dX11_fits_29 : decode cX11_fits 29 = .ok (.ireturn, 1) := by decide +kernel
theorem dX11_fits_8 : decode cX11_fits 8 = .ok (.aload_n 0, 1) := by decide +kernel
theorem dX11_fits_9 : decode cX11_fits 9 = .ok (.getfield 38, 3) := by decide +kernel
theorem dX11_fits_12 : decode cX11_fits 12 = .ok (.iload_n 1, 1) := by decide +kernel
set_option maxRecDepth 20000 in
theorem ggX11_fits_X8_has : GoodIn wsX11_fits wsX8_has := goodIn_r _ [20, 21, 193, 194, 195, 196, 197] (by decide +kernel) (by decide +kernel)
set_option maxRecDepth 20000 in
theorem gX11_fits_X8_has : GoodIn wsX11_fits (wsV RX11 146 RX8 yX8_has wsX8_has) := goodIn_app (goodIn_of _ (by decide +kernel)) ggX11_fits_X8_has
theorem dX11_fits_13 : decode cX11_fits 13 = .ok (.invokevirtual 146, 3) := by decide +kernel
theorem dX11_fits_16 : decode cX11_fits 16 = .ok (.ifCond .eq 12, 3) := by decide +kernel
theorem dX11_fits_19 : decode cX11_fits 19 = .ok (.iload_n 3, 1) := by decide +kernel
theorem dX11_fits_20 : decode cX11_fits 20 = .ok (.iconst 0, 1) := by decide +kernel
theorem dX11_fits_21 : decode cX11_fits 21 = .ok (.iconst 2, 1) := by decide +kernel
set_option maxRecDepth 20000 in
theorem ggX11_fits_X11_within : GoodIn wsX11_fits wsX11_within := goodIn_r _ [15] (by decide +kernel) (by decide +kernel)
set_option maxRecDepth 20000 in
theorem gX11_fits_X11_within : GoodIn wsX11_fits (va_wsS RX11 107 yX11_within wsX11_within) := goodIn_app (goodIn_of _ (by decide +kernel)) ggX11_fits_X11_within
theorem dX11_fits_22 : decode cX11_fits 22 = .ok (.invokestatic 107, 3) := by decide +kernel
theorem dX11_fits_25 : decode cX11_fits 25 = .ok (.ifCond .ne 5, 3) := by decide +kernel
theorem dX11_fits_30 : decode cX11_fits 30 = .ok (.aload_n 0, 1) := by decide +kernel
theorem dX11_fits_31 : decode cX11_fits 31 = .ok (.getfield 58, 3) := by decide +kernel
theorem dX11_fits_34 : decode cX11_fits 34 = .ok (.iload_n 2, 1) := by decide +kernel
set_option maxRecDepth 20000 in
theorem ggX11_fits_X7_recall : GoodIn wsX11_fits wsX7_recall := goodIn_r _ [26, 27, 28, 29, 30, 31, 32, 33, 34, 35, 36, 37, 38, 39, 40, 41, 42, 43, 44, 45, 46, 47, 48, 49, 50, 10, 51, 52, 53, 54, 55, 56, 57, 58, 59, 60, 61, 62, 63, 64, 65, 66, 67, 68, 69, 70, 71, 72, 73, 74, 25, 75, 76, 77, 78, 79, 80, 81, 82, 83, 84, 85, 86, 87, 88, 89, 90, 91, 92, 93, 94, 95, 96, 97, 98, 99, 19, 100, 101, 102, 103, 104, 17, 18, 20, 21, 105, 106, 107, 108, 109, 110, 111, 112, 113, 114, 115, 116, 117, 118, 119, 120, 121, 122, 123, 124, 125, 126, 198, 199, 200, 201, 202, 203, 204, 205, 206, 207, 208, 209, 210, 211, 212, 213, 214, 215, 216, 217, 218, 219, 220, 221, 222, 223, 224, 225, 226, 193, 194, 195, 196, 197, 227] (by decide +kernel) (by decide +kernel)
set_option maxRecDepth 20000 in
theorem gX11_fits_X7_recall : GoodIn wsX11_fits (wsV RX11 214 RX7 yX7_recall wsX7_recall) := goodIn_app (goodIn_of _ (by decide +kernel)) ggX11_fits_X7_recall
theorem dX11_fits_35 : decode cX11_fits 35 = .ok (.invokevirtual 214, 3) := by decide +kernel
theorem dX11_fits_38 : decode cX11_fits 38 = .ok (.aload_n 0, 1) := by decide +kernel
theorem dX11_fits_39 : decode cX11_fits 39 = .ok (.getfield 67, 3) := by decide +kernel
theorem dX11_fits_42 : decode cX11_fits 42 = .ok (.iload_n 1, 1) := by decide +kernel
set_option maxRecDepth 20000 in
theorem ggX11_fits_X1_fit : GoodIn wsX11_fits wsX1_fit := goodIn_r _ [131, 132, 133, 134, 135, 136, 137, 130, 138, 139, 140, 141, 142, 143, 144, 145, 57, 54, 58, 146, 147, 148, 53, 55, 149, 150, 151, 152, 153, 154, 155, 156, 157, 158, 159, 160, 161, 162, 163, 164, 19, 165, 102, 166, 98, 99, 100, 101, 103, 104, 17, 18, 20, 21, 105, 106, 107, 108, 109, 110, 111, 112, 113, 114, 115, 116, 117, 118, 119, 120, 121, 122, 123, 124, 180, 181, 182, 183, 184, 185, 186, 187, 188, 189, 190, 191, 192, 198, 199, 200, 201, 202, 203, 204, 205, 206, 207, 208, 209, 193, 194, 195, 196, 197, 227] (by decide +kernel) (by decide +kernel)
set_option maxRecDepth 20000 in
theorem gX11_fits_X1_fit : GoodIn wsX11_fits (wsV RX11 300 RX1 yX1_fit wsX1_fit) := goodIn_app (goodIn_of _ (by decide +kernel)) ggX11_fits_X1_fit
theorem dX11_fits_43 : decode cX11_fits 43 = .ok (.invokevirtual 300, 3) := by decide +kernel
theorem dX11_fits_46 : decode cX11_fits 46 = .ok (.iload_n 3, 1) := by decide +kernel
theorem dX11_fits_47 : decode cX11_fits 47 = .ok (.iconst 2, 1) := by decide +kernel
theorem dX11_fits_48 : decode cX11_fits 48 = .ok (.if_icmp .ne 11, 3) := by decide +kernel
theorem dX11_fits_59 : decode cX11_fits 59 = .ok (.iload_n 3, 1) := by decide +kernel
theorem dX11_fits_60 : decode cX11_fits 60 = .ok (.ifCond .ne 13, 3) := by decide +kernel
theorem dX11_fits_73 : decode cX11_fits 73 = .ok (.aload_n 0, 1) := by decide +kernel
theorem dX11_fits_74 : decode cX11_fits 74 = .ok (.getfield 67, 3) := by decide +kernel
theorem dX11_fits_77 : decode cX11_fits 77 = .ok (.getfield 309, 3) := by decide +kernel
theorem dX11_fits_80 : decode cX11_fits 80 = .ok (.ireturn, 1) := by decide +kernel
theorem dX11_fits_63 : decode cX11_fits 63 = .ok (.aload_n 0, 1) := by decide +kernel
theorem dX11_fits_64 : decode cX11_fits 64 = .ok (.getfield 67, 3) := by decide +kernel
theorem dX11_fits_67 : decode cX11_fits 67 = .ok (.getfield 306, 3) := by decide +kernel
theorem dX11_fits_70 : decode cX11_fits 70 = .ok (.goto 10, 3) := by decide +kernel
theorem dX11_fits_51 : decode cX11_fits 51 = .ok (.aload_n 0, 1) := by decide +kernel
theorem dX11_fits_52 : decode cX11_fits 52 = .ok (.getfield 67, 3) := by decide +kernel
theorem dX11_fits_55 : decode cX11_fits 55 = .ok (.getfield 303, 3) := by decide +kernel
theorem dX11_fits_58 : decode cX11_fits 58 = .ok (.ireturn, 1) := by decide +kernel
/-- HissHorn.fits(III)I of cell 0 -/
def rmX11_fits_0 : Room := { frames := 5, cells := 0, slots := 0, locals := 118 }
theorem hX11_fits_0_X11 : ∀ w ∈ u_ws RX11 TX11 13, w ∈ wsX11_fits := fun w h => (List.mem_cons_of_mem _ (List.mem_append_left _ (List.mem_append_left _ (List.mem_append_left _ (List.mem_append_left _ (List.mem_append_left _ (List.mem_append_right _ h)))))))
theorem mX11_fits_0_1 : Cond.fieldLink RX11 38 "HissHorn" "guesses" "LHissHorn$Shelf;" ∈ wsX11_fits := (List.mem_cons_of_mem _ (List.mem_append_left _ (List.mem_append_left _ (List.mem_append_left _ (List.mem_append_left _ (List.mem_append_left _ (List.mem_append_left _ (List.mem_append_left _ (List.mem_of_getElem? (i := 0) rfl)))))))))
theorem mX11_fits_0_2 : Cond.fieldLink RX11 58 "HissHorn" "readings" "LHissHorn$Readings;" ∈ wsX11_fits := (List.mem_cons_of_mem _ (List.mem_append_left _ (List.mem_append_left _ (List.mem_append_left _ (List.mem_append_left _ (List.mem_append_left _ (List.mem_append_left _ (List.mem_append_left _ (List.mem_of_getElem? (i := 1) rfl)))))))))
theorem mX11_fits_0_3 : Cond.fieldLink RX11 67 "HissHorn" "findings" "LHissHorn$Findings;" ∈ wsX11_fits := (List.mem_cons_of_mem _ (List.mem_append_left _ (List.mem_append_left _ (List.mem_append_left _ (List.mem_append_left _ (List.mem_append_left _ (List.mem_append_left _ (List.mem_append_left _ (List.mem_of_getElem? (i := 2) rfl)))))))))
theorem hX11_fits_0_X1 : ∀ w ∈ u_ws RX1 TX1 13, w ∈ wsX11_fits := fun w h => (List.mem_cons_of_mem _ (List.mem_append_left _ (List.mem_append_left _ (List.mem_append_left _ (List.mem_append_left _ (List.mem_append_right _ h))))))
theorem mX11_fits_0_5 : Cond.fieldLink RX11 309 "HissHorn$Findings" "greatestFit" "I" ∈ wsX11_fits := (List.mem_cons_of_mem _ (List.mem_append_left _ (List.mem_append_left _ (List.mem_append_left _ (List.mem_append_left _ (List.mem_append_left _ (List.mem_append_left _ (List.mem_append_left _ (List.mem_of_getElem? (i := 5) rfl)))))))))
theorem mX11_fits_0_6 : Cond.fieldLink RX11 306 "HissHorn$Findings" "leastFit" "I" ∈ wsX11_fits := (List.mem_cons_of_mem _ (List.mem_append_left _ (List.mem_append_left _ (List.mem_append_left _ (List.mem_append_left _ (List.mem_append_left _ (List.mem_append_left _ (List.mem_append_left _ (List.mem_of_getElem? (i := 4) rfl)))))))))
theorem mX11_fits_0_7 : Cond.fieldLink RX11 303 "HissHorn$Findings" "fitting" "I" ∈ wsX11_fits := (List.mem_cons_of_mem _ (List.mem_append_left _ (List.mem_append_left _ (List.mem_append_left _ (List.mem_append_left _ (List.mem_append_left _ (List.mem_append_left _ (List.mem_append_left _ (List.mem_of_getElem? (i := 3) rfl)))))))))
def fX11_fits_0 (x1 : Int32) (x2 : Int32) (x3 : Int32) (u : SX) : Option (Int32 × SX) := ((fX11_isDay_0 x2 u).bind fun q => match q with | (r1, u2) => (if r1 = 0 then (some ((-1), u2)) else ((fX8_has_4 x1 u2).bind fun q => match q with | (r4, u5) => (if r4 = 0 then (some ((-1), u5)) else ((fX11_within x3 0 2).bind fun r7 => (if r7 = 0 then (some ((-1), u5)) else ((fX7_recall_7 x2 u5).bind fun q => match q with | (r10, u11) => ((fX1_fit_8 x1 u11).bind fun q => match q with | (r13, u14) => (if x3 = 2 then (some (u14.1 21, u14)) else (if x3 = 0 then (some (u14.1 19, u14)) else (some (u14.1 20, u14))))))))))))
set_option maxHeartbeats 4000000 in
set_option maxRecDepth 100000 in
theorem wX11_fits_0 {p : Program} {l : Launch} {e : Env} {s : State} {m : MethodId} {args : Array Value} {below : List Frame} {meth : Method} {c : Code} {D : va_G} {cy : Nat → ClassId} {ad st : Nat → Nat} (C : Cx RX11 cX11_fits 4 (some .int) wsX11_fits p s m args meth c) (hK : Kx D [(cy 0, .int), (cy 1, .long), (cy 2, .boolean), (cy 3, .byte), (cy 4, .object "HissHorn$Text")] st s) (hJ : JX ad) (x1 : Int32) (x2 : Int32) (x3 : Int32) {u : SX} {r : Int32} {u' : SX} {H : Heap} {locs : List Loc} {ls : Array Slot} (h : fX11_fits_0 x1 x2 x3 u = some (r, u')) (hP : va_P D vwCl (VX cy ad st u) H) (hS : va_S (Ax (AX ad) s.heap.size) s.heap H locs) (hl : lv_has ls 4 [(0, .ref (ad 0)), (1, .int x1), (2, .int x2), (3, .int x3)]) : W p l e rmX11_fits_0 s m args below meth c H locs 0 0 (MQ below (Qi D (VX cy ad st) (AX ad) s.heap.size r u') args s 0 0 (Ax (AX ad) s.heap.size)) (F0 m 0 ls []) := by
  unfold fX11_fits_0 at h
  refine lv_aload_n C.1 C.2.1 dX11_fits_0 rfl (lv_at hl 0 rfl) ?_
  refine lv_iload_n C.1 C.2.1 dX11_fits_1 rfl (lv_at hl 2 rfl) ?_
  obtain ⟨⟨r1, u2⟩, hc3, h⟩ := bd_some h
  try dsimp only at h
  refine cg_i (As := [.int x2]) (rest := []) C hK hP hS (metX11_isDay_0 l D cy ad st hJ _ x2 hc3) (cwV 1 C.2.2.2.2.2.1 gX11_fits_X11_isDay rfl rfl rfl (by decide +kernel) ⟨(Nat.le_of_ble_eq_true rfl), (Nat.le_of_ble_eq_true rfl)⟩) 0 11 rfl rfl rfl hl.1 rfl (Nat.le_of_ble_eq_true rfl) dX11_fits_2 ⟨Nat.zero_le _, Nat.zero_le _⟩ (fun H locs hP hS => ?_)
  refine lv_if_eq (tgt := 28) C.1 C.2.1 dX11_fits_5 (by decide) (fun c5 => ?_) (fun c5 => ?_)
  · rw [if_pos c5] at h
    refine lv_iconst (v := (-1)) C.1 C.2.1 dX11_fits_28 (by decide) ?_
    cases h
    exact rt_i C hP hS dX11_fits_29
  · rw [if_neg c5] at h
    refine lv_aload_n C.1 C.2.1 dX11_fits_8 rfl (lv_at hl 0 rfl) ?_
    refine gX_0_guesses C hX11_fits_0_X11 hK hP mX11_fits_0_1 dX11_fits_9 ?_
    refine lv_iload_n C.1 C.2.1 dX11_fits_12 rfl (lv_at hl 1 rfl) ?_
    obtain ⟨⟨r4, u5⟩, hc6, h⟩ := bd_some h
    try dsimp only at h
    refine cg_i (As := [.int x1]) (rest := []) C hK hP hS (metX8_has_4 l D cy ad st hJ _ x1 hc6) (cwV 1 C.2.2.2.2.2.1 gX11_fits_X8_has rfl rfl rfl (by decide +kernel) ⟨(Nat.le_of_ble_eq_true rfl), (Nat.le_of_ble_eq_true rfl)⟩) 4 8 rfl rfl rfl hl.1 rfl (Nat.le_of_ble_eq_true rfl) dX11_fits_13 ⟨Nat.zero_le _, Nat.zero_le _⟩ (fun H locs hP hS => ?_)
    refine lv_if_eq (tgt := 28) C.1 C.2.1 dX11_fits_16 (by decide) (fun c16 => ?_) (fun c16 => ?_)
    · rw [if_pos c16] at h
      refine lv_iconst (v := (-1)) C.1 C.2.1 dX11_fits_28 (by decide) ?_
      cases h
      exact rt_i C hP hS dX11_fits_29
    · rw [if_neg c16] at h
      refine lv_iload_n C.1 C.2.1 dX11_fits_19 rfl (lv_at hl 3 rfl) ?_
      refine lv_iconst (v := 0) C.1 C.2.1 dX11_fits_20 (by decide) ?_
      refine lv_iconst (v := 2) C.1 C.2.1 dX11_fits_21 (by decide) ?_
      obtain ⟨r7, hc9, h⟩ := bd_some h
      refine cs_i (As := [.int x3, .int 0, .int 2]) (rest := []) C hK hP hS (metX11_within l D cy st _ x3 0 2 hc9) (va_cwS 3 C.2.2.2.2.2.1 gX11_fits_X11_within rfl rfl rfl (by decide +kernel) ⟨(Nat.le_of_ble_eq_true rfl), (Nat.le_of_ble_eq_true rfl)⟩) rfl hl.1 rfl (Nat.le_of_ble_eq_true rfl) dX11_fits_22 ⟨Nat.zero_le _, Nat.zero_le _⟩ (fun H locs hP hS => ?_)
      refine lv_if_ne (tgt := 30) C.1 C.2.1 dX11_fits_25 (by decide) (fun c25 => ?_) (fun c25 => ?_)
      · rw [if_neg c25] at h
        refine lv_aload_n C.1 C.2.1 dX11_fits_30 rfl (lv_at hl 0 rfl) ?_
        refine gX_0_readings C hX11_fits_0_X11 hK hP mX11_fits_0_2 dX11_fits_31 ?_
        refine lv_iload_n C.1 C.2.1 dX11_fits_34 rfl (lv_at hl 2 rfl) ?_
        obtain ⟨⟨r10, u11⟩, hc12, h⟩ := bd_some h
        try dsimp only at h
        refine cg_v (As := [.int x2]) (rest := []) C hK hP hS (metX7_recall_7 l D cy ad st hJ _ x2 hc12) (cwV 1 C.2.2.2.2.2.1 gX11_fits_X7_recall rfl rfl rfl (by decide +kernel) ⟨(Nat.le_of_ble_eq_true rfl), (Nat.le_of_ble_eq_true rfl)⟩) 7 7 rfl rfl rfl hl.1 rfl (Nat.le_of_ble_eq_true rfl) dX11_fits_35 ⟨Nat.zero_le _, Nat.zero_le _⟩ (fun H locs hP hS => ?_)
        refine lv_aload_n C.1 C.2.1 dX11_fits_38 rfl (lv_at hl 0 rfl) ?_
        refine gX_0_findings C hX11_fits_0_X11 hK hP mX11_fits_0_3 dX11_fits_39 ?_
        refine lv_iload_n C.1 C.2.1 dX11_fits_42 rfl (lv_at hl 1 rfl) ?_
        obtain ⟨⟨r13, u14⟩, hc15, h⟩ := bd_some h
        try dsimp only at h
        refine cg_v (As := [.int x1]) (rest := []) C hK hP hS (metX1_fit_8 l D cy ad st hJ _ x1 hc15) (cwV 1 C.2.2.2.2.2.1 gX11_fits_X1_fit rfl rfl rfl (by decide +kernel) ⟨(Nat.le_of_ble_eq_true rfl), (Nat.le_of_ble_eq_true rfl)⟩) 8 1 rfl rfl rfl hl.1 rfl (Nat.le_of_ble_eq_true rfl) dX11_fits_43 ⟨Nat.zero_le _, Nat.zero_le _⟩ (fun H locs hP hS => ?_)
        refine lv_iload_n C.1 C.2.1 dX11_fits_46 rfl (lv_at hl 3 rfl) ?_
        refine lv_iconst (v := 2) C.1 C.2.1 dX11_fits_47 (by decide) ?_
        refine lv_icmp_ne (tgt := 59) C.1 C.2.1 dX11_fits_48 (by decide) (fun c48 => ?_) (fun c48 => ?_)
        · rw [if_neg c48] at h
          refine lv_iload_n C.1 C.2.1 dX11_fits_59 rfl (lv_at hl 3 rfl) ?_
          refine lv_if_ne (tgt := 73) C.1 C.2.1 dX11_fits_60 (by decide) (fun c60 => ?_) (fun c60 => ?_)
          · rw [if_neg c60] at h
            refine lv_aload_n C.1 C.2.1 dX11_fits_73 rfl (lv_at hl 0 rfl) ?_
            refine gX_0_findings C hX11_fits_0_X11 hK hP mX11_fits_0_3 dX11_fits_74 ?_
            refine gX_8_greatestFit C hX11_fits_0_X1 hK hP mX11_fits_0_5 dX11_fits_77 ?_
            cases h
            exact rt_i C hP hS dX11_fits_80
          · rw [if_pos c60] at h
            refine lv_aload_n C.1 C.2.1 dX11_fits_63 rfl (lv_at hl 0 rfl) ?_
            refine gX_0_findings C hX11_fits_0_X11 hK hP mX11_fits_0_3 dX11_fits_64 ?_
            refine gX_8_leastFit C hX11_fits_0_X1 hK hP mX11_fits_0_6 dX11_fits_67 ?_
            refine lv_goto (tgt := 80) C.1 C.2.1 dX11_fits_70 (by decide) ?_
            cases h
            exact rt_i C hP hS dX11_fits_80
        · rw [if_pos c48] at h
          refine lv_aload_n C.1 C.2.1 dX11_fits_51 rfl (lv_at hl 0 rfl) ?_
          refine gX_0_findings C hX11_fits_0_X11 hK hP mX11_fits_0_3 dX11_fits_52 ?_
          refine gX_8_fitting C hX11_fits_0_X1 hK hP mX11_fits_0_7 dX11_fits_55 ?_
          cases h
          exact rt_i C hP hS dX11_fits_58
      · rw [if_pos c25] at h
        refine lv_iconst (v := (-1)) C.1 C.2.1 dX11_fits_28 (by decide) ?_
        cases h
        exact rt_i C hP hS dX11_fits_29
theorem metX11_fits_0 (l : Launch) (D : va_G) (cy : Nat → ClassId) (ad st : Nat → Nat) (hJ : JX ad) (sz : Nat) (x1 : Int32) (x2 : Int32) (x3 : Int32) {u : SX} {r : Int32} {u' : SX} (h : fX11_fits_0 x1 x2 x3 u = some (r, u')) : Met l yX11_fits wsX11_fits rmX11_fits_0 (va_Pc [.ref (ad 0), .int x1, .int x2, .int x3] (Px D [(cy 0, .int), (cy 1, .long), (cy 2, .boolean), (cy 3, .byte), (cy 4, .object "HissHorn$Text")] st (VX cy ad st) sz u)) (Qi D (VX cy ad st) (AX ad) sz r u') 0 0 (Ax (AX ad) sz) := by
  refine Met.ofW (cc := cX11_fits) (maxL := 4) (ret := (some .int)) (by decide) rfl ?_
  intro p e s m args below meth c s₁ B hml hv
  obtain ⟨rfl, hsz, hP, hK⟩ := hv
  subst hsz
  have C : Cx RX11 cX11_fits 4 (some .int) wsX11_fits p s m _ meth c := ⟨B.exec, B.bytes, hml, B.returns, findClass_of_methodNamed B.named, atoms_spec (ws := wsX11_fits) B.pre, B.notSynchronized⟩
  have hl := lv_entry ([.ref (ad 0), .int x1, .int x2, .int x3]) (n := 4) (Nat.le_of_ble_eq_true rfl)
  rw [lg_entry_eq]
  exact wX11_fits_0 C hK hJ x1 x2 x3 h hP va_S.rf hl

theorem dX1_tellApart_59 : decode cX1_tellApart 59 = .ok (.iinc 5 1, 3) := by decide +kernel
theorem dX1_tellApart_62 : decode cX1_tellApart 62 = .ok (.goto (-54), 3) := by decide +kernel
theorem dX1_tellApart_8 : decode cX1_tellApart 8 = .ok (.iload 5, 2) := by decide +kernel
theorem dX1_tellApart_10 : decode cX1_tellApart 10 = .ok (.bipush 40, 2) := by decide +kernel
theorem dX1_tellApart_12 : decode cX1_tellApart 12 = .ok (.if_icmp .gt 53, 3) := by decide +kernel
theorem dX1_tellApart_65 : decode cX1_tellApart 65 = .ok (.return_, 1) := by decide +kernel
theorem dX1_tellApart_15 : decode cX1_tellApart 15 = .ok (.aload_n 0, 1) := by decide +kernel
theorem dX1_tellApart_16 : decode cX1_tellApart 16 = .ok (.iload_n 1, 1) := by decide +kernel
theorem dX1_tellApart_17 : decode cX1_tellApart 17 = .ok (.iload 5, 2) := by decide +kernel
theorem dX1_tellApart_19 : decode cX1_tellApart 19 = .ok (.iload_n 2, 1) := by decide +kernel
set_option maxRecDepth 20000 in
theorem ggX1_tellApart_X1_guessed : GoodIn wsX1_tellApart wsX1_guessed := goodIn_r _ [11, 12, 13, 14, 15, 16, 17, 18, 19, 20, 21, 22, 23, 24, 25, 26, 27, 28, 29, 30, 31, 32, 33, 34, 35, 36, 37, 38, 39, 40, 41, 42, 43, 44, 45, 4, 46, 47, 48, 49, 50, 51, 52, 53, 54, 55, 56, 57, 58, 59, 60, 61, 62, 63, 64, 65, 66, 67, 68] (by decide +kernel) (by decide +kernel)
set_option maxRecDepth 20000 in
theorem gX1_tellApart_X1_guessed : GoodIn wsX1_tellApart (wsV RX1 98 RX1 yX1_guessed wsX1_guessed) := goodIn_app (goodIn_of _ (by decide +kernel)) ggX1_tellApart_X1_guessed
theorem dX1_tellApart_20 : decode cX1_tellApart 20 = .ok (.invokevirtual 98, 3) := by decide +kernel
theorem dX1_tellApart_23 : decode cX1_tellApart 23 = .ok (.aload_n 0, 1) := by decide +kernel
theorem dX1_tellApart_24 : decode cX1_tellApart 24 = .ok (.iload_n 3, 1) := by decide +kernel
theorem dX1_tellApart_25 : decode cX1_tellApart 25 = .ok (.iload 5, 2) := by decide +kernel
theorem dX1_tellApart_27 : decode cX1_tellApart 27 = .ok (.iload 4, 2) := by decide +kernel
theorem dX1_tellApart_29 : decode cX1_tellApart 29 = .ok (.invokevirtual 98, 3) := by decide +kernel
theorem dX1_tellApart_32 : decode cX1_tellApart 32 = .ok (.isub, 1) := by decide +kernel
theorem dX1_tellApart_33 : decode cX1_tellApart 33 = .ok (.invokestatic 115, 3) := by decide +kernel
theorem dX1_tellApart_36 : decode cX1_tellApart 36 = .ok (.istore 6, 2) := by decide +kernel
theorem dX1_tellApart_38 : decode cX1_tellApart 38 = .ok (.iload 6, 2) := by decide +kernel
theorem dX1_tellApart_40 : decode cX1_tellApart 40 = .ok (.aload_n 0, 1) := by decide +kernel
theorem dX1_tellApart_41 : decode cX1_tellApart 41 = .ok (.getfield 112, 3) := by decide +kernel
theorem dX1_tellApart_44 : decode cX1_tellApart 44 = .ok (.if_icmp .le 15, 3) := by decide +kernel
theorem dX1_tellApart_47 : decode cX1_tellApart 47 = .ok (.aload_n 0, 1) := by decide +kernel
theorem dX1_tellApart_48 : decode cX1_tellApart 48 = .ok (.iload 6, 2) := by decide +kernel
theorem dX1_tellApart_50 : decode cX1_tellApart 50 = .ok (.putfield 112, 3) := by decide +kernel
theorem dX1_tellApart_53 : decode cX1_tellApart 53 = .ok (.aload_n 0, 1) := by decide +kernel
theorem dX1_tellApart_54 : decode cX1_tellApart 54 = .ok (.iload 5, 2) := by decide +kernel
theorem dX1_tellApart_56 : decode cX1_tellApart 56 = .ok (.putfield 117, 3) := by decide +kernel
theorem dX1_tellApart_0 : decode cX1_tellApart 0 = .ok (.aload_n 0, 1) := by decide +kernel
theorem dX1_tellApart_1 : decode cX1_tellApart 1 = .ok (.iconst (-1), 1) := by decide +kernel
theorem dX1_tellApart_2 : decode cX1_tellApart 2 = .ok (.putfield 112, 3) := by decide +kernel
theorem dX1_tellApart_5 : decode cX1_tellApart 5 = .ok (.iconst 1, 1) := by decide +kernel
theorem dX1_tellApart_6 : decode cX1_tellApart 6 = .ok (.istore 5, 2) := by decide +kernel
/-- HissHorn$Findings.tellApart(IIII)V of cell 8 -/
def rmX1_tellApart_8 : Room := { frames := 3, cells := 0, slots := 0, locals := 66 }
theorem hX1_tellApart_8_X1 : ∀ w ∈ u_ws RX1 TX1 13, w ∈ wsX1_tellApart := fun w h => (List.mem_cons_of_mem _ (List.mem_append_left _ (List.mem_append_left _ (List.mem_append_right _ h))))
theorem mX1_tellApart_8_1 : Cond.fieldLink RX1 112 "HissHorn$Findings" "farthest" "I" ∈ wsX1_tellApart := (List.mem_cons_of_mem _ (List.mem_append_left _ (List.mem_append_left _ (List.mem_append_left _ (List.mem_append_left _ (List.mem_of_getElem? (i := 0) rfl))))))
theorem mX1_tellApart_8_2 : Cond.methodLink RX1 115 Lib.Math.abs.name ∈ wsX1_tellApart := (List.mem_cons_of_mem _ (List.mem_append_left _ (List.mem_append_left _ (List.mem_append_left _ (List.mem_append_left _ (List.mem_of_getElem? (i := 1) rfl))))))
theorem mX1_tellApart_8_3 : Cond.static Lib.Math.abs.name ∈ wsX1_tellApart := (List.mem_cons_of_mem _ (List.mem_append_left _ (List.mem_append_left _ (List.mem_append_left _ (List.mem_append_left _ (List.mem_of_getElem? (i := 2) rfl))))))
theorem mX1_tellApart_8_4 : Cond.initialized "java/lang/Math" ∈ wsX1_tellApart := (List.mem_cons_of_mem _ (List.mem_append_left _ (List.mem_append_left _ (List.mem_append_left _ (List.mem_append_left _ (List.mem_of_getElem? (i := 3) rfl))))))
theorem mX1_tellApart_8_5 : Cond.code Lib.Math.abs.name Lib.Math.abs.code 1 (some .int) ∈ wsX1_tellApart := (List.mem_cons_of_mem _ (List.mem_append_left _ (List.mem_append_left _ (List.mem_append_left _ (List.mem_append_left _ (List.mem_of_getElem? (i := 4) rfl))))))
def GX1_tellApart_8_59 (k8 : Int32 → Int32 → Int32 → Int32 → Int32 → SX → Option (Int32 × SX)) (z1 : Int32) (z2 : Int32) (z3 : Int32) (z4 : Int32) (z5 : Int32) (u : SX) : Option (Int32 × SX) := (k8 z1 z2 z3 z4 (z5 + 1) u)
theorem mX1_tellApart_8_6 : Cond.fieldLink RX1 117 "HissHorn$Findings" "farthestWave" "I" ∈ wsX1_tellApart := (List.mem_cons_of_mem _ (List.mem_append_left _ (List.mem_append_left _ (List.mem_append_left _ (List.mem_append_left _ (List.mem_of_getElem? (i := 5) rfl))))))
def LX1_tellApart_8_8  : Nat → Int32 → Int32 → Int32 → Int32 → Int32 → SX → Option (Int32 × SX)
  | 0, _, _, _, _, _, _ => none
  | n + 1, z1, z2, z3, z4, z5, u => (if 40 < z5 then (some (0, u)) else ((fX1_guessed_8 z1 z5 z2 u).bind fun q => match q with | (r3, u4) => ((fX1_guessed_8 z3 z5 z4 u4).bind fun q => match q with | (r6, u7) => (lt (if 0 ≤ (r3 - r6) then (r3 - r6) else 0 - (r3 - r6)) fun v9 => (if v9 ≤ (u7.1 23) then (GX1_tellApart_8_59 (LX1_tellApart_8_8 n) z1 z2 z3 z4 z5 u7) else (lt (sI u7 23 v9) fun u11 => (lt (sI u11 22 z5) fun u13 => (GX1_tellApart_8_59 (LX1_tellApart_8_8 n) z1 z2 z3 z4 z5 u13))))))))
def fX1_tellApart_8 (x1 : Int32) (x2 : Int32) (x3 : Int32) (x4 : Int32) (u : SX) : Option (Int32 × SX) := (lt (sI u 23 (-1)) fun u1 => (LX1_tellApart_8_8  5000 x1 x2 x3 x4 1 u1))
set_option maxHeartbeats 4000000 in
set_option maxRecDepth 100000 in
theorem wGX1_tellApart_8_59 {p : Program} {l : Launch} {e : Env} {s : State} {m : MethodId} {args : Array Value} {below : List Frame} {meth : Method} {c : Code} {D : va_G} {cy : Nat → ClassId} {ad st : Nat → Nat} (C : Cx RX1 cX1_tellApart 7 none wsX1_tellApart p s m args meth c) (hK : Kx D [(cy 0, .int), (cy 1, .long), (cy 2, .boolean), (cy 3, .byte), (cy 4, .object "HissHorn$Text")] st s) (hJ : JX ad) {r : Int32} {u' : SX} {k8 : Int32 → Int32 → Int32 → Int32 → Int32 → SX → Option (Int32 × SX)} (hk8 : ∀ (z1 : Int32) (z2 : Int32) (z3 : Int32) (z4 : Int32) (z5 : Int32) (u : SX) (H : Heap) (locs : List Loc) (ls : Array Slot), k8 z1 z2 z3 z4 z5 u = some (r, u') → va_P D vwCl (VX cy ad st u) H → va_S (Ax (AX ad) s.heap.size) s.heap H locs → lv_has ls 7 [(0, .ref (ad 8)), (1, .int z1), (2, .int z2), (3, .int z3), (4, .int z4), (5, .int z5)] → W p l e rmX1_tellApart_8 s m args below meth c H locs 0 0 (MQ below (Qv D (VX cy ad st) (AX ad) s.heap.size r u') args s 0 0 (Ax (AX ad) s.heap.size)) (F0 m 8 ls [])) (z1 : Int32) (z2 : Int32) (z3 : Int32) (z4 : Int32) (z5 : Int32) (u : SX) (H : Heap) (locs : List Loc) (ls : Array Slot) (h : GX1_tellApart_8_59 k8 z1 z2 z3 z4 z5 u = some (r, u')) (hP : va_P D vwCl (VX cy ad st u) H) (hS : va_S (Ax (AX ad) s.heap.size) s.heap H locs) (hl : lv_has ls 7 [(0, .ref (ad 8)), (1, .int z1), (2, .int z2), (3, .int z3), (4, .int z4), (5, .int z5)]) : W p l e rmX1_tellApart_8 s m args below meth c H locs 0 0 (MQ below (Qv D (VX cy ad st) (AX ad) s.heap.size r u') args s 0 0 (Ax (AX ad) s.heap.size)) (F0 m 59 ls []) := by
  unfold GX1_tellApart_8_59 at h
  refine lv_iinc (v := z5 + 1) (lv' := [(5, .int (z5 + 1)), (0, .ref (ad 8)), (1, .int z1), (2, .int z2), (3, .int z3), (4, .int z4)]) C.1 C.2.1 dX1_tellApart_59 hl (k := 5) rfl rfl (by decide) rfl (fun ls hl => ?_)
  replace hl := lv_sub (l' := [(0, .ref (ad 8)), (1, .int z1), (2, .int z2), (3, .int z3), (4, .int z4), (5, .int (z5 + 1))]) hl [1, 2, 3, 4, 5, 0] rfl
  refine lv_goto (tgt := 8) C.1 C.2.1 dX1_tellApart_62 (by decide) ?_
  exact hk8 _ _ _ _ _ _ _ _ _ h hP hS hl
set_option maxHeartbeats 4000000 in
set_option maxRecDepth 100000 in
theorem wLX1_tellApart_8_8 {p : Program} {l : Launch} {e : Env} {s : State} {m : MethodId} {args : Array Value} {below : List Frame} {meth : Method} {c : Code} {D : va_G} {cy : Nat → ClassId} {ad st : Nat → Nat} (C : Cx RX1 cX1_tellApart 7 none wsX1_tellApart p s m args meth c) (hK : Kx D [(cy 0, .int), (cy 1, .long), (cy 2, .boolean), (cy 3, .byte), (cy 4, .object "HissHorn$Text")] st s) (hJ : JX ad) {r : Int32} {u' : SX}   : ∀ (n : Nat) (z1 : Int32) (z2 : Int32) (z3 : Int32) (z4 : Int32) (z5 : Int32) (u : SX) (H : Heap) (locs : List Loc) (ls : Array Slot), LX1_tellApart_8_8  n z1 z2 z3 z4 z5 u = some (r, u') → va_P D vwCl (VX cy ad st u) H → va_S (Ax (AX ad) s.heap.size) s.heap H locs → lv_has ls 7 [(0, .ref (ad 8)), (1, .int z1), (2, .int z2), (3, .int z3), (4, .int z4), (5, .int z5)] → W p l e rmX1_tellApart_8 s m args below meth c H locs 0 0 (MQ below (Qv D (VX cy ad st) (AX ad) s.heap.size r u') args s 0 0 (Ax (AX ad) s.heap.size)) (F0 m 8 ls []) := by
  intro n
  induction n with
  | zero =>
    intro z1 z2 z3 z4 z5 u H locs ls h
    exact absurd h (by intro q; cases q)
  | succ n ih =>
    intro z1 z2 z3 z4 z5 u H locs ls h hP hS hl
    rw [LX1_tellApart_8_8] at h
    refine lv_iload C.1 C.2.1 dX1_tellApart_8 (lv_at hl 5 rfl) ?_
    refine lv_bipush (v := 40) C.1 C.2.1 dX1_tellApart_10 (by decide) ?_
    refine lv_icmp_gt (tgt := 65) C.1 C.2.1 dX1_tellApart_12 (by decide) (fun c12 => ?_) (fun c12 => ?_)
    · rw [if_pos c12] at h
      cases h
      exact rt_v C hP hS dX1_tellApart_65
    · rw [if_neg c12] at h
      refine lv_aload_n C.1 C.2.1 dX1_tellApart_15 rfl (lv_at hl 0 rfl) ?_
      refine lv_iload_n C.1 C.2.1 dX1_tellApart_16 rfl (lv_at hl 1 rfl) ?_
      refine lv_iload C.1 C.2.1 dX1_tellApart_17 (lv_at hl 5 rfl) ?_
      refine lv_iload_n C.1 C.2.1 dX1_tellApart_19 rfl (lv_at hl 2 rfl) ?_
      obtain ⟨⟨r3, u4⟩, hc5, h⟩ := bd_some h
      try dsimp only at h
      refine cg_i (As := [.int z1, .int z5, .int z2]) (rest := []) C hK hP hS (metX1_guessed_8 l D cy ad st hJ _ z1 z5 z2 hc5) (cwV 3 C.2.2.2.2.2.1 gX1_tellApart_X1_guessed rfl rfl rfl (by decide +kernel) ⟨(Nat.le_of_ble_eq_true rfl), (Nat.le_of_ble_eq_true rfl)⟩) 8 1 rfl rfl rfl hl.1 rfl (Nat.le_of_ble_eq_true rfl) dX1_tellApart_20 ⟨Nat.zero_le _, Nat.zero_le _⟩ (fun H locs hP hS => ?_)
      refine lv_aload_n C.1 C.2.1 dX1_tellApart_23 rfl (lv_at hl 0 rfl) ?_
      refine lv_iload_n C.1 C.2.1 dX1_tellApart_24 rfl (lv_at hl 3 rfl) ?_
      refine lv_iload C.1 C.2.1 dX1_tellApart_25 (lv_at hl 5 rfl) ?_
      refine lv_iload C.1 C.2.1 dX1_tellApart_27 (lv_at hl 4 rfl) ?_
      obtain ⟨⟨r6, u7⟩, hc8, h⟩ := bd_some h
      try dsimp only at h
      refine cg_i (As := [.int z3, .int z5, .int z4]) (rest := [.int r3]) C hK hP hS (metX1_guessed_8 l D cy ad st hJ _ z3 z5 z4 hc8) (cwV 3 C.2.2.2.2.2.1 gX1_tellApart_X1_guessed rfl rfl rfl (by decide +kernel) ⟨(Nat.le_of_ble_eq_true rfl), (Nat.le_of_ble_eq_true rfl)⟩) 8 1 rfl rfl rfl hl.1 rfl (Nat.le_of_ble_eq_true rfl) dX1_tellApart_29 ⟨Nat.zero_le _, Nat.zero_le _⟩ (fun H locs hP hS => ?_)
      refine lv_isub C.1 C.2.1 dX1_tellApart_32 ?_
      refine va_mabs C.1 C.2.1 (C.2.2.1.trans hl.1.symm) C.2.2.2.2.1 (C.2.2.2.2.2.1 _ mX1_tellApart_8_2) (C.2.2.2.2.2.1 _ mX1_tellApart_8_3) (C.2.2.2.2.2.1 _ mX1_tellApart_8_4) (C.2.2.2.2.2.1 _ mX1_tellApart_8_5) (Nat.le_of_ble_eq_true rfl) (Nat.le_of_ble_eq_true rfl) (Nat.zero_le _) (Nat.zero_le _) dX1_tellApart_33 ?_
      refine lv_topi (fun v9 hv10 => ?_)
      replace h := lt_e hv10 h
      try dsimp only at h
      refine lv_istore (lv' := [(6, .int v9), (0, .ref (ad 8)), (1, .int z1), (2, .int z2), (3, .int z3), (4, .int z4), (5, .int z5)]) C.1 C.2.1 dX1_tellApart_36 hl (by decide) rfl (fun ls hl => ?_)
      replace hl := lv_sub (l' := [(0, .ref (ad 8)), (1, .int z1), (2, .int z2), (3, .int z3), (4, .int z4), (5, .int z5), (6, .int v9)]) hl [1, 2, 3, 4, 5, 6, 0] rfl
      refine lv_iload C.1 C.2.1 dX1_tellApart_38 (lv_at hl 6 rfl) ?_
      refine lv_aload_n C.1 C.2.1 dX1_tellApart_40 rfl (lv_at hl 0 rfl) ?_
      refine gX_8_farthest C hX1_tellApart_8_X1 hK hP mX1_tellApart_8_1 dX1_tellApart_41 ?_
      refine lv_icmp_le (tgt := 59) C.1 C.2.1 dX1_tellApart_44 (by decide) (fun c44 => ?_) (fun c44 => ?_)
      · rw [if_pos c44] at h
        exact wGX1_tellApart_8_59 C hK hJ ih _ _ _ _ _ _ _ _ _ h hP hS (lv_sub hl [0, 1, 2, 3, 4, 5] rfl)
      · rw [if_neg c44] at h
        refine lv_aload_n C.1 C.2.1 dX1_tellApart_47 rfl (lv_at hl 0 rfl) ?_
        refine lv_iload C.1 C.2.1 dX1_tellApart_48 (lv_at hl 6 rfl) ?_
        refine pX_8_farthest C hX1_tellApart_8_X1 hK hP hJ hS mX1_tellApart_8_1 dX1_tellApart_50 (fun H locs hP hS => ?_)
        obtain ⟨u11, hu12, h⟩ := lt_some h
        rw [← hu12] at hP
        refine lv_aload_n C.1 C.2.1 dX1_tellApart_53 rfl (lv_at hl 0 rfl) ?_
        refine lv_iload C.1 C.2.1 dX1_tellApart_54 (lv_at hl 5 rfl) ?_
        refine pX_8_farthestWave C hX1_tellApart_8_X1 hK hP hJ hS mX1_tellApart_8_6 dX1_tellApart_56 (fun H locs hP hS => ?_)
        obtain ⟨u13, hu14, h⟩ := lt_some h
        rw [← hu14] at hP
        exact wGX1_tellApart_8_59 C hK hJ ih _ _ _ _ _ _ _ _ _ h hP hS (lv_sub hl [0, 1, 2, 3, 4, 5] rfl)
set_option maxHeartbeats 4000000 in
set_option maxRecDepth 100000 in
theorem wX1_tellApart_8 {p : Program} {l : Launch} {e : Env} {s : State} {m : MethodId} {args : Array Value} {below : List Frame} {meth : Method} {c : Code} {D : va_G} {cy : Nat → ClassId} {ad st : Nat → Nat} (C : Cx RX1 cX1_tellApart 7 none wsX1_tellApart p s m args meth c) (hK : Kx D [(cy 0, .int), (cy 1, .long), (cy 2, .boolean), (cy 3, .byte), (cy 4, .object "HissHorn$Text")] st s) (hJ : JX ad) (x1 : Int32) (x2 : Int32) (x3 : Int32) (x4 : Int32) {u : SX} {r : Int32} {u' : SX} {H : Heap} {locs : List Loc} {ls : Array Slot} (h : fX1_tellApart_8 x1 x2 x3 x4 u = some (r, u')) (hP : va_P D vwCl (VX cy ad st u) H) (hS : va_S (Ax (AX ad) s.heap.size) s.heap H locs) (hl : lv_has ls 7 [(0, .ref (ad 8)), (1, .int x1), (2, .int x2), (3, .int x3), (4, .int x4)]) : W p l e rmX1_tellApart_8 s m args below meth c H locs 0 0 (MQ below (Qv D (VX cy ad st) (AX ad) s.heap.size r u') args s 0 0 (Ax (AX ad) s.heap.size)) (F0 m 0 ls []) := by
  unfold fX1_tellApart_8 at h
  refine lv_aload_n C.1 C.2.1 dX1_tellApart_0 rfl (lv_at hl 0 rfl) ?_
  refine lv_iconst (v := (-1)) C.1 C.2.1 dX1_tellApart_1 (by decide) ?_
  refine pX_8_farthest C hX1_tellApart_8_X1 hK hP hJ hS mX1_tellApart_8_1 dX1_tellApart_2 (fun H locs hP hS => ?_)
  obtain ⟨u1, hu2, h⟩ := lt_some h
  rw [← hu2] at hP
  refine lv_iconst (v := 1) C.1 C.2.1 dX1_tellApart_5 (by decide) ?_
  refine lv_istore (lv' := [(5, .int 1), (0, .ref (ad 8)), (1, .int x1), (2, .int x2), (3, .int x3), (4, .int x4)]) C.1 C.2.1 dX1_tellApart_6 hl (by decide) rfl (fun ls hl => ?_)
  replace hl := lv_sub (l' := [(0, .ref (ad 8)), (1, .int x1), (2, .int x2), (3, .int x3), (4, .int x4), (5, .int 1)]) hl [1, 2, 3, 4, 5, 0] rfl
  exact wLX1_tellApart_8_8 C hK hJ  5000 _ _ _ _ _ _ _ _ _ h hP hS hl
theorem metX1_tellApart_8 (l : Launch) (D : va_G) (cy : Nat → ClassId) (ad st : Nat → Nat) (hJ : JX ad) (sz : Nat) (x1 : Int32) (x2 : Int32) (x3 : Int32) (x4 : Int32) {u : SX} {r : Int32} {u' : SX} (h : fX1_tellApart_8 x1 x2 x3 x4 u = some (r, u')) : Met l yX1_tellApart wsX1_tellApart rmX1_tellApart_8 (va_Pc [.ref (ad 8), .int x1, .int x2, .int x3, .int x4] (Px D [(cy 0, .int), (cy 1, .long), (cy 2, .boolean), (cy 3, .byte), (cy 4, .object "HissHorn$Text")] st (VX cy ad st) sz u)) (Qv D (VX cy ad st) (AX ad) sz r u') 0 0 (Ax (AX ad) sz) := by
  refine Met.ofW (cc := cX1_tellApart) (maxL := 7) (ret := none) (by decide) rfl ?_
  intro p e s m args below meth c s₁ B hml hv
  obtain ⟨rfl, hsz, hP, hK⟩ := hv
  subst hsz
  have C : Cx RX1 cX1_tellApart 7 none wsX1_tellApart p s m _ meth c := ⟨B.exec, B.bytes, hml, B.returns, findClass_of_methodNamed B.named, atoms_spec (ws := wsX1_tellApart) B.pre, B.notSynchronized⟩
  have hl := lv_entry ([.ref (ad 8), .int x1, .int x2, .int x3, .int x4]) (n := 7) (Nat.le_of_ble_eq_true rfl)
  rw [lg_entry_eq]
  exact wX1_tellApart_8 C hK hJ x1 x2 x3 x4 h hP va_S.rf hl

theorem dX11_next_0 : decode cX11_next 0 = .ok (.aload_n 0, 1) := by decide +kernel
theorem dX11_next_1 : decode cX11_next 1 = .ok (.iload_n 3, 1) := by decide +kernel
set_option maxRecDepth 20000 in
theorem ggX11_next_X11_isDay : GoodIn wsX11_next wsX11_isDay := goodIn_r _ [11, 12, 13, 14, 10, 15, 179, 180, 181, 182, 183, 184, 185, 186, 187, 188, 189, 190, 191] (by decide +kernel) (by decide +kernel)
set_option maxRecDepth 20000 in
theorem gX11_next_X11_isDay : GoodIn wsX11_next (wsV RX11 174 RX11 yX11_isDay wsX11_isDay) := goodIn_app (goodIn_of _ (by decide +kernel)) ggX11_next_X11_isDay
theorem dX11_next_2 : decode cX11_next 2 = .ok (.invokevirtual 174, 3) := by decide +kernel
theorem dX11_next_5 : decode cX11_next 5 = .ok (.ifCond .eq 33, 3) := by decide +kernel
theorem dX11_next_38 : decode cX11_next 38 = .ok (.iconst (-1), 1) := by decide +kernel
theorem dX11_next_39 : decode cX11_next 39 = .ok (.ireturn, 1) := by decide +kernel
theorem dX11_next_8 : decode cX11_next 8 = .ok (.aload_n 0, 1) := by decide +kernel
theorem dX11_next_9 : decode cX11_next 9 = .ok (.getfield 38, 3) := by decide +kernel
theorem dX11_next_12 : decode cX11_next 12 = .ok (.iload_n 1, 1) := by decide +kernel
set_option maxRecDepth 20000 in
theorem ggX11_next_X8_has : GoodIn wsX11_next wsX8_has := goodIn_r _ [20, 21, 205, 206, 207, 208, 209] (by decide +kernel) (by decide +kernel)
set_option maxRecDepth 20000 in
theorem gX11_next_X8_has : GoodIn wsX11_next (wsV RX11 146 RX8 yX8_has wsX8_has) := goodIn_app (goodIn_of _ (by decide +kernel)) ggX11_next_X8_has
theorem dX11_next_13 : decode cX11_next 13 = .ok (.invokevirtual 146, 3) := by decide +kernel
theorem dX11_next_16 : decode cX11_next 16 = .ok (.ifCond .eq 22, 3) := by decide +kernel
theorem dX11_next_19 : decode cX11_next 19 = .ok (.aload_n 0, 1) := by decide +kernel
theorem dX11_next_20 : decode cX11_next 20 = .ok (.getfield 38, 3) := by decide +kernel
theorem dX11_next_23 : decode cX11_next 23 = .ok (.iload_n 2, 1) := by decide +kernel
theorem dX11_next_24 : decode cX11_next 24 = .ok (.invokevirtual 146, 3) := by decide +kernel
theorem dX11_next_27 : decode cX11_next 27 = .ok (.ifCond .eq 11, 3) := by decide +kernel
theorem dX11_next_30 : decode cX11_next 30 = .ok (.iload 4, 2) := by decide +kernel
set_option maxRecDepth 20000 in
theorem ggX11_next_X11_isEither : GoodIn wsX11_next wsX11_isEither := goodIn_r _ [24] (by decide +kernel) (by decide +kernel)
set_option maxRecDepth 20000 in
theorem gX11_next_X11_isEither : GoodIn wsX11_next (va_wsS RX11 177 yX11_isEither wsX11_isEither) := goodIn_app (goodIn_of _ (by decide +kernel)) ggX11_next_X11_isEither
theorem dX11_next_32 : decode cX11_next 32 = .ok (.invokestatic 177, 3) := by decide +kernel
theorem dX11_next_35 : decode cX11_next 35 = .ok (.ifCond .ne 5, 3) := by decide +kernel
theorem dX11_next_40 : decode cX11_next 40 = .ok (.aload_n 0, 1) := by decide +kernel
theorem dX11_next_41 : decode cX11_next 41 = .ok (.getfield 58, 3) := by decide +kernel
theorem dX11_next_44 : decode cX11_next 44 = .ok (.iload_n 3, 1) := by decide +kernel
set_option maxRecDepth 20000 in
theorem ggX11_next_X7_recall : GoodIn wsX11_next wsX7_recall := goodIn_r _ [29, 30, 31, 32, 33, 34, 35, 36, 37, 38, 39, 40, 41, 42, 43, 44, 45, 46, 47, 48, 49, 50, 51, 52, 53, 10, 54, 55, 56, 57, 58, 59, 60, 61, 62, 63, 64, 65, 66, 67, 68, 69, 70, 71, 72, 73, 74, 75, 76, 77, 28, 78, 79, 80, 81, 82, 83, 84, 85, 86, 87, 88, 89, 90, 91, 92, 93, 94, 95, 96, 97, 98, 99, 100, 101, 102, 19, 103, 104, 105, 106, 107, 17, 18, 20, 21, 108, 109, 110, 111, 112, 113, 114, 115, 116, 117, 118, 119, 120, 121, 122, 123, 124, 125, 126, 127, 128, 129, 210, 211, 212, 213, 214, 215, 216, 217, 218, 219, 220, 221, 222, 223, 224, 225, 226, 227, 228, 229, 230, 231, 232, 233, 234, 235, 236, 237, 238, 205, 206, 207, 208, 209, 239] (by decide +kernel) (by decide +kernel)
set_option maxRecDepth 20000 in
theorem gX11_next_X7_recall : GoodIn wsX11_next (wsV RX11 214 RX7 yX7_recall wsX7_recall) := goodIn_app (goodIn_of _ (by decide +kernel)) ggX11_next_X7_recall
theorem dX11_next_45 : decode cX11_next 45 = .ok (.invokevirtual 214, 3) := by decide +kernel
theorem dX11_next_48 : decode cX11_next 48 = .ok (.aload_n 0, 1) := by decide +kernel
theorem dX11_next_49 : decode cX11_next 49 = .ok (.getfield 67, 3) := by decide +kernel
theorem dX11_next_52 : decode cX11_next 52 = .ok (.iload_n 1, 1) := by decide +kernel
set_option maxRecDepth 20000 in
theorem ggX11_next_X1_fit : GoodIn wsX11_next wsX1_fit := goodIn_r _ [134, 135, 136, 137, 138, 139, 140, 133, 141, 142, 143, 144, 145, 146, 147, 148, 60, 57, 61, 149, 150, 151, 56, 58, 152, 153, 154, 155, 156, 157, 158, 159, 160, 161, 162, 163, 164, 165, 166, 167, 19, 168, 105, 169, 101, 102, 103, 104, 106, 107, 17, 18, 20, 21, 108, 109, 110, 111, 112, 113, 114, 115, 116, 117, 118, 119, 120, 121, 122, 123, 124, 125, 126, 127, 192, 193, 194, 195, 196, 197, 198, 199, 200, 201, 202, 203, 204, 210, 211, 212, 213, 214, 215, 216, 217, 218, 219, 220, 221, 205, 206, 207, 208, 209, 239] (by decide +kernel) (by decide +kernel)
set_option maxRecDepth 20000 in
theorem gX11_next_X1_fit : GoodIn wsX11_next (wsV RX11 300 RX1 yX1_fit wsX1_fit) := goodIn_app (goodIn_of _ (by decide +kernel)) ggX11_next_X1_fit
theorem dX11_next_53 : decode cX11_next 53 = .ok (.invokevirtual 300, 3) := by decide +kernel
theorem dX11_next_56 : decode cX11_next 56 = .ok (.aload_n 0, 1) := by decide +kernel
theorem dX11_next_57 : decode cX11_next 57 = .ok (.getfield 67, 3) := by decide +kernel
theorem dX11_next_60 : decode cX11_next 60 = .ok (.getfield 306, 3) := by decide +kernel
theorem dX11_next_63 : decode cX11_next 63 = .ok (.istore 5, 2) := by decide +kernel
theorem dX11_next_65 : decode cX11_next 65 = .ok (.aload_n 0, 1) := by decide +kernel
theorem dX11_next_66 : decode cX11_next 66 = .ok (.getfield 67, 3) := by decide +kernel
theorem dX11_next_69 : decode cX11_next 69 = .ok (.iload_n 2, 1) := by decide +kernel
theorem dX11_next_70 : decode cX11_next 70 = .ok (.invokevirtual 300, 3) := by decide +kernel
theorem dX11_next_73 : decode cX11_next 73 = .ok (.aload_n 0, 1) := by decide +kernel
theorem dX11_next_74 : decode cX11_next 74 = .ok (.getfield 67, 3) := by decide +kernel
theorem dX11_next_77 : decode cX11_next 77 = .ok (.getfield 306, 3) := by decide +kernel
theorem dX11_next_80 : decode cX11_next 80 = .ok (.istore 6, 2) := by decide +kernel
theorem dX11_next_82 : decode cX11_next 82 = .ok (.iload 5, 2) := by decide +kernel
theorem dX11_next_84 : decode cX11_next 84 = .ok (.iconst (-1), 1) := by decide +kernel
theorem dX11_next_85 : decode cX11_next 85 = .ok (.if_icmp .eq 9, 3) := by decide +kernel
theorem dX11_next_94 : decode cX11_next 94 = .ok (.iconst (-1), 1) := by decide +kernel
theorem dX11_next_95 : decode cX11_next 95 = .ok (.ireturn, 1) := by decide +kernel
theorem dX11_next_88 : decode cX11_next 88 = .ok (.iload 6, 2) := by decide +kernel
theorem dX11_next_90 : decode cX11_next 90 = .ok (.iconst (-1), 1) := by decide +kernel
theorem dX11_next_91 : decode cX11_next 91 = .ok (.if_icmp .ne 5, 3) := by decide +kernel
theorem dX11_next_96 : decode cX11_next 96 = .ok (.aload_n 0, 1) := by decide +kernel
theorem dX11_next_97 : decode cX11_next 97 = .ok (.getfield 67, 3) := by decide +kernel
theorem dX11_next_100 : decode cX11_next 100 = .ok (.iload_n 1, 1) := by decide +kernel
theorem dX11_next_101 : decode cX11_next 101 = .ok (.iload 5, 2) := by decide +kernel
theorem dX11_next_103 : decode cX11_next 103 = .ok (.iload_n 2, 1) := by decide +kernel
theorem dX11_next_104 : decode cX11_next 104 = .ok (.iload 6, 2) := by decide +kernel
set_option maxRecDepth 20000 in
theorem ggX11_next_X1_tellApart : GoodIn wsX11_next wsX1_tellApart := goodIn_r _ [173, 174, 175, 176, 57, 177, 178, 160, 161, 162, 133, 163, 164, 165, 166, 167, 19, 168, 105, 169, 101, 102, 103, 104, 106, 107, 17, 18, 20, 21, 108, 109, 110, 111, 112, 113, 114, 115, 116, 117, 118, 119, 120, 121, 122, 123, 124, 125, 126, 127, 192, 193, 194, 195, 196, 197, 198, 199, 200, 201, 202, 203, 204, 205, 206, 207, 208, 209, 239] (by decide +kernel) (by decide +kernel)
set_option maxRecDepth 20000 in
theorem gX11_next_X1_tellApart : GoodIn wsX11_next (wsV RX11 312 RX1 yX1_tellApart wsX1_tellApart) := goodIn_app (goodIn_of _ (by decide +kernel)) ggX11_next_X1_tellApart
theorem dX11_next_106 : decode cX11_next 106 = .ok (.invokevirtual 312, 3) := by decide +kernel
theorem dX11_next_109 : decode cX11_next 109 = .ok (.iload 4, 2) := by decide +kernel
theorem dX11_next_111 : decode cX11_next 111 = .ok (.ifCond .ne 13, 3) := by decide +kernel
theorem dX11_next_124 : decode cX11_next 124 = .ok (.aload_n 0, 1) := by decide +kernel
theorem dX11_next_125 : decode cX11_next 125 = .ok (.getfield 67, 3) := by decide +kernel
theorem dX11_next_128 : decode cX11_next 128 = .ok (.getfield 319, 3) := by decide +kernel
theorem dX11_next_131 : decode cX11_next 131 = .ok (.ireturn, 1) := by decide +kernel
theorem dX11_next_114 : decode cX11_next 114 = .ok (.aload_n 0, 1) := by decide +kernel
theorem dX11_next_115 : decode cX11_next 115 = .ok (.getfield 67, 3) := by decide +kernel
theorem dX11_next_118 : decode cX11_next 118 = .ok (.getfield 316, 3) := by decide +kernel
theorem dX11_next_121 : decode cX11_next 121 = .ok (.goto 10, 3) := by decide +kernel
/-- HissHorn.next(IIII)I of cell 0 -/
def rmX11_next_0 : Room := { frames := 5, cells := 0, slots := 0, locals := 118 }
theorem hX11_next_0_X11 : ∀ w ∈ u_ws RX11 TX11 13, w ∈ wsX11_next := fun w h => (List.mem_cons_of_mem _ (List.mem_append_left _ (List.mem_append_left _ (List.mem_append_left _ (List.mem_append_left _ (List.mem_append_left _ (List.mem_append_right _ h)))))))
theorem mX11_next_0_1 : Cond.fieldLink RX11 38 "HissHorn" "guesses" "LHissHorn$Shelf;" ∈ wsX11_next := (List.mem_cons_of_mem _ (List.mem_append_left _ (List.mem_append_left _ (List.mem_append_left _ (List.mem_append_left _ (List.mem_append_left _ (List.mem_append_left _ (List.mem_append_left _ (List.mem_of_getElem? (i := 0) rfl)))))))))
theorem mX11_next_0_2 : Cond.fieldLink RX11 58 "HissHorn" "readings" "LHissHorn$Readings;" ∈ wsX11_next := (List.mem_cons_of_mem _ (List.mem_append_left _ (List.mem_append_left _ (List.mem_append_left _ (List.mem_append_left _ (List.mem_append_left _ (List.mem_append_left _ (List.mem_append_left _ (List.mem_of_getElem? (i := 1) rfl)))))))))
theorem mX11_next_0_3 : Cond.fieldLink RX11 67 "HissHorn" "findings" "LHissHorn$Findings;" ∈ wsX11_next := (List.mem_cons_of_mem _ (List.mem_append_left _ (List.mem_append_left _ (List.mem_append_left _ (List.mem_append_left _ (List.mem_append_left _ (List.mem_append_left _ (List.mem_append_left _ (List.mem_of_getElem? (i := 2) rfl)))))))))
theorem hX11_next_0_X1 : ∀ w ∈ u_ws RX1 TX1 13, w ∈ wsX11_next := fun w h => (List.mem_cons_of_mem _ (List.mem_append_left _ (List.mem_append_left _ (List.mem_append_left _ (List.mem_append_left _ (List.mem_append_right _ h))))))
theorem mX11_next_0_5 : Cond.fieldLink RX11 306 "HissHorn$Findings" "leastFit" "I" ∈ wsX11_next := (List.mem_cons_of_mem _ (List.mem_append_left _ (List.mem_append_left _ (List.mem_append_left _ (List.mem_append_left _ (List.mem_append_left _ (List.mem_append_left _ (List.mem_append_left _ (List.mem_of_getElem? (i := 3) rfl)))))))))
theorem mX11_next_0_6 : Cond.fieldLink RX11 319 "HissHorn$Findings" "farthest" "I" ∈ wsX11_next := (List.mem_cons_of_mem _ (List.mem_append_left _ (List.mem_append_left _ (List.mem_append_left _ (List.mem_append_left _ (List.mem_append_left _ (List.mem_append_left _ (List.mem_append_left _ (List.mem_of_getElem? (i := 5) rfl)))))))))
theorem mX11_next_0_7 : Cond.fieldLink RX11 316 "HissHorn$Findings" "farthestWave" "I" ∈ wsX11_next := (List.mem_cons_of_mem _ (List.mem_append_left _ (List.mem_append_left _ (List.mem_append_left _ (List.mem_append_left _ (List.mem_append_left _ (List.mem_append_left _ (List.mem_append_left _ (List.mem_of_getElem? (i := 4) rfl)))))))))
def fX11_next_0 (x1 : Int32) (x2 : Int32) (x3 : Int32) (x4 : Int32) (u : SX) : Option (Int32 × SX) := ((fX11_isDay_0 x3 u).bind fun q => match q with | (r1, u2) => (if r1 = 0 then (some ((-1), u2)) else ((fX8_has_4 x1 u2).bind fun q => match q with | (r4, u5) => (if r4 = 0 then (some ((-1), u5)) else ((fX8_has_4 x2 u5).bind fun q => match q with | (r7, u8) => (if r7 = 0 then (some ((-1), u8)) else ((fX11_isEither x4).bind fun r10 => (if r10 = 0 then (some ((-1), u8)) else ((fX7_recall_7 x3 u8).bind fun q => match q with | (r13, u14) => ((fX1_fit_8 x1 u14).bind fun q => match q with | (r16, u17) => (lt (u17.1 19) fun v19 => ((fX1_fit_8 x2 u17).bind fun q => match q with | (r21, u22) => (lt (u22.1 19) fun v24 => (if v19 = (-1) then (some ((-1), u22)) else (if v24 = (-1) then (some ((-1), u22)) else ((fX1_tellApart_8 x1 v19 x2 v24 u22).bind fun q => match q with | (r26, u27) => (if x4 = 0 then (some (u27.1 22, u27)) else (some (u27.1 23, u27)))))))))))))))))))
set_option maxHeartbeats 4000000 in
set_option maxRecDepth 100000 in
theorem wX11_next_0 {p : Program} {l : Launch} {e : Env} {s : State} {m : MethodId} {args : Array Value} {below : List Frame} {meth : Method} {c : Code} {D : va_G} {cy : Nat → ClassId} {ad st : Nat → Nat} (C : Cx RX11 cX11_next 7 (some .int) wsX11_next p s m args meth c) (hK : Kx D [(cy 0, .int), (cy 1, .long), (cy 2, .boolean), (cy 3, .byte), (cy 4, .object "HissHorn$Text")] st s) (hJ : JX ad) (x1 : Int32) (x2 : Int32) (x3 : Int32) (x4 : Int32) {u : SX} {r : Int32} {u' : SX} {H : Heap} {locs : List Loc} {ls : Array Slot} (h : fX11_next_0 x1 x2 x3 x4 u = some (r, u')) (hP : va_P D vwCl (VX cy ad st u) H) (hS : va_S (Ax (AX ad) s.heap.size) s.heap H locs) (hl : lv_has ls 7 [(0, .ref (ad 0)), (1, .int x1), (2, .int x2), (3, .int x3), (4, .int x4)]) : W p l e rmX11_next_0 s m args below meth c H locs 0 0 (MQ below (Qi D (VX cy ad st) (AX ad) s.heap.size r u') args s 0 0 (Ax (AX ad) s.heap.size)) (F0 m 0 ls []) := by
  unfold fX11_next_0 at h
  refine lv_aload_n C.1 C.2.1 dX11_next_0 rfl (lv_at hl 0 rfl) ?_
  refine lv_iload_n C.1 C.2.1 dX11_next_1 rfl (lv_at hl 3 rfl) ?_
  obtain ⟨⟨r1, u2⟩, hc3, h⟩ := bd_some h
  try dsimp only at h
  refine cg_i (As := [.int x3]) (rest := []) C hK hP hS (metX11_isDay_0 l D cy ad st hJ _ x3 hc3) (cwV 1 C.2.2.2.2.2.1 gX11_next_X11_isDay rfl rfl rfl (by decide +kernel) ⟨(Nat.le_of_ble_eq_true rfl), (Nat.le_of_ble_eq_true rfl)⟩) 0 11 rfl rfl rfl hl.1 rfl (Nat.le_of_ble_eq_true rfl) dX11_next_2 ⟨Nat.zero_le _, Nat.zero_le _⟩ (fun H locs hP hS => ?_)
  refine lv_if_eq (tgt := 38) C.1 C.2.1 dX11_next_5 (by decide) (fun c5 => ?_) (fun c5 => ?_)
  · rw [if_pos c5] at h
    refine lv_iconst (v := (-1)) C.1 C.2.1 dX11_next_38 (by decide) ?_
    cases h
    exact rt_i C hP hS dX11_next_39
  · rw [if_neg c5] at h
    refine lv_aload_n C.1 C.2.1 dX11_next_8 rfl (lv_at hl 0 rfl) ?_
    refine gX_0_guesses C hX11_next_0_X11 hK hP mX11_next_0_1 dX11_next_9 ?_
    refine lv_iload_n C.1 C.2.1 dX11_next_12 rfl (lv_at hl 1 rfl) ?_
    obtain ⟨⟨r4, u5⟩, hc6, h⟩ := bd_some h
    try dsimp only at h
    refine cg_i (As := [.int x1]) (rest := []) C hK hP hS (metX8_has_4 l D cy ad st hJ _ x1 hc6) (cwV 1 C.2.2.2.2.2.1 gX11_next_X8_has rfl rfl rfl (by decide +kernel) ⟨(Nat.le_of_ble_eq_true rfl), (Nat.le_of_ble_eq_true rfl)⟩) 4 8 rfl rfl rfl hl.1 rfl (Nat.le_of_ble_eq_true rfl) dX11_next_13 ⟨Nat.zero_le _, Nat.zero_le _⟩ (fun H locs hP hS => ?_)
    refine lv_if_eq (tgt := 38) C.1 C.2.1 dX11_next_16 (by decide) (fun c16 => ?_) (fun c16 => ?_)
    · rw [if_pos c16] at h
      refine lv_iconst (v := (-1)) C.1 C.2.1 dX11_next_38 (by decide) ?_
      cases h
      exact rt_i C hP hS dX11_next_39
    · rw [if_neg c16] at h
      refine lv_aload_n C.1 C.2.1 dX11_next_19 rfl (lv_at hl 0 rfl) ?_
      refine gX_0_guesses C hX11_next_0_X11 hK hP mX11_next_0_1 dX11_next_20 ?_
      refine lv_iload_n C.1 C.2.1 dX11_next_23 rfl (lv_at hl 2 rfl) ?_
      obtain ⟨⟨r7, u8⟩, hc9, h⟩ := bd_some h
      try dsimp only at h
      refine cg_i (As := [.int x2]) (rest := []) C hK hP hS (metX8_has_4 l D cy ad st hJ _ x2 hc9) (cwV 1 C.2.2.2.2.2.1 gX11_next_X8_has rfl rfl rfl (by decide +kernel) ⟨(Nat.le_of_ble_eq_true rfl), (Nat.le_of_ble_eq_true rfl)⟩) 4 8 rfl rfl rfl hl.1 rfl (Nat.le_of_ble_eq_true rfl) dX11_next_24 ⟨Nat.zero_le _, Nat.zero_le _⟩ (fun H locs hP hS => ?_)
      refine lv_if_eq (tgt := 38) C.1 C.2.1 dX11_next_27 (by decide) (fun c27 => ?_) (fun c27 => ?_)
      · rw [if_pos c27] at h
        refine lv_iconst (v := (-1)) C.1 C.2.1 dX11_next_38 (by decide) ?_
        cases h
        exact rt_i C hP hS dX11_next_39
      · rw [if_neg c27] at h
        refine lv_iload C.1 C.2.1 dX11_next_30 (lv_at hl 4 rfl) ?_
        obtain ⟨r10, hc12, h⟩ := bd_some h
        refine cs_i (As := [.int x4]) (rest := []) C hK hP hS (metX11_isEither l D cy st _ x4 hc12) (va_cwS 1 C.2.2.2.2.2.1 gX11_next_X11_isEither rfl rfl rfl (by decide +kernel) ⟨(Nat.le_of_ble_eq_true rfl), (Nat.le_of_ble_eq_true rfl)⟩) rfl hl.1 rfl (Nat.le_of_ble_eq_true rfl) dX11_next_32 ⟨Nat.zero_le _, Nat.zero_le _⟩ (fun H locs hP hS => ?_)
        refine lv_if_ne (tgt := 40) C.1 C.2.1 dX11_next_35 (by decide) (fun c35 => ?_) (fun c35 => ?_)
        · rw [if_neg c35] at h
          refine lv_aload_n C.1 C.2.1 dX11_next_40 rfl (lv_at hl 0 rfl) ?_
          refine gX_0_readings C hX11_next_0_X11 hK hP mX11_next_0_2 dX11_next_41 ?_
          refine lv_iload_n C.1 C.2.1 dX11_next_44 rfl (lv_at hl 3 rfl) ?_
          obtain ⟨⟨r13, u14⟩, hc15, h⟩ := bd_some h
          try dsimp only at h
          refine cg_v (As := [.int x3]) (rest := []) C hK hP hS (metX7_recall_7 l D cy ad st hJ _ x3 hc15) (cwV 1 C.2.2.2.2.2.1 gX11_next_X7_recall rfl rfl rfl (by decide +kernel) ⟨(Nat.le_of_ble_eq_true rfl), (Nat.le_of_ble_eq_true rfl)⟩) 7 7 rfl rfl rfl hl.1 rfl (Nat.le_of_ble_eq_true rfl) dX11_next_45 ⟨Nat.zero_le _, Nat.zero_le _⟩ (fun H locs hP hS => ?_)
          refine lv_aload_n C.1 C.2.1 dX11_next_48 rfl (lv_at hl 0 rfl) ?_
          refine gX_0_findings C hX11_next_0_X11 hK hP mX11_next_0_3 dX11_next_49 ?_
          refine lv_iload_n C.1 C.2.1 dX11_next_52 rfl (lv_at hl 1 rfl) ?_
          obtain ⟨⟨r16, u17⟩, hc18, h⟩ := bd_some h
          try dsimp only at h
          refine cg_v (As := [.int x1]) (rest := []) C hK hP hS (metX1_fit_8 l D cy ad st hJ _ x1 hc18) (cwV 1 C.2.2.2.2.2.1 gX11_next_X1_fit rfl rfl rfl (by decide +kernel) ⟨(Nat.le_of_ble_eq_true rfl), (Nat.le_of_ble_eq_true rfl)⟩) 8 1 rfl rfl rfl hl.1 rfl (Nat.le_of_ble_eq_true rfl) dX11_next_53 ⟨Nat.zero_le _, Nat.zero_le _⟩ (fun H locs hP hS => ?_)
          refine lv_aload_n C.1 C.2.1 dX11_next_56 rfl (lv_at hl 0 rfl) ?_
          refine gX_0_findings C hX11_next_0_X11 hK hP mX11_next_0_3 dX11_next_57 ?_
          refine gX_8_leastFit C hX11_next_0_X1 hK hP mX11_next_0_5 dX11_next_60 ?_
          refine lv_topi (fun v19 hv20 => ?_)
          replace h := lt_e hv20 h
          try dsimp only at h
          refine lv_istore (lv' := [(5, .int v19), (0, .ref (ad 0)), (1, .int x1), (2, .int x2), (3, .int x3), (4, .int x4)]) C.1 C.2.1 dX11_next_63 hl (by decide) rfl (fun ls hl => ?_)
          replace hl := lv_sub (l' := [(0, .ref (ad 0)), (1, .int x1), (2, .int x2), (3, .int x3), (4, .int x4), (5, .int v19)]) hl [1, 2, 3, 4, 5, 0] rfl
          refine lv_aload_n C.1 C.2.1 dX11_next_65 rfl (lv_at hl 0 rfl) ?_
          refine gX_0_findings C hX11_next_0_X11 hK hP mX11_next_0_3 dX11_next_66 ?_
          refine lv_iload_n C.1 C.2.1 dX11_next_69 rfl (lv_at hl 2 rfl) ?_
          obtain ⟨⟨r21, u22⟩, hc23, h⟩ := bd_some h
          try dsimp only at h
          refine cg_v (As := [.int x2]) (rest := []) C hK hP hS (metX1_fit_8 l D cy ad st hJ _ x2 hc23) (cwV 1 C.2.2.2.2.2.1 gX11_next_X1_fit rfl rfl rfl (by decide +kernel) ⟨(Nat.le_of_ble_eq_true rfl), (Nat.le_of_ble_eq_true rfl)⟩) 8 1 rfl rfl rfl hl.1 rfl (Nat.le_of_ble_eq_true rfl) dX11_next_70 ⟨Nat.zero_le _, Nat.zero_le _⟩ (fun H locs hP hS => ?_)
          refine lv_aload_n C.1 C.2.1 dX11_next_73 rfl (lv_at hl 0 rfl) ?_
          refine gX_0_findings C hX11_next_0_X11 hK hP mX11_next_0_3 dX11_next_74 ?_
          refine gX_8_leastFit C hX11_next_0_X1 hK hP mX11_next_0_5 dX11_next_77 ?_
          refine lv_topi (fun v24 hv25 => ?_)
          replace h := lt_e hv25 h
          try dsimp only at h
          refine lv_istore (lv' := [(6, .int v24), (0, .ref (ad 0)), (1, .int x1), (2, .int x2), (3, .int x3), (4, .int x4), (5, .int v19)]) C.1 C.2.1 dX11_next_80 hl (by decide) rfl (fun ls hl => ?_)
          replace hl := lv_sub (l' := [(0, .ref (ad 0)), (1, .int x1), (2, .int x2), (3, .int x3), (4, .int x4), (5, .int v19), (6, .int v24)]) hl [1, 2, 3, 4, 5, 6, 0] rfl
          refine lv_iload C.1 C.2.1 dX11_next_82 (lv_at hl 5 rfl) ?_
          refine lv_iconst (v := (-1)) C.1 C.2.1 dX11_next_84 (by decide) ?_
          refine lv_icmp_eq (tgt := 94) C.1 C.2.1 dX11_next_85 (by decide) (fun c85 => ?_) (fun c85 => ?_)
          · rw [if_pos c85] at h
            refine lv_iconst (v := (-1)) C.1 C.2.1 dX11_next_94 (by decide) ?_
            cases h
            exact rt_i C hP hS dX11_next_95
          · rw [if_neg c85] at h
            refine lv_iload C.1 C.2.1 dX11_next_88 (lv_at hl 6 rfl) ?_
            refine lv_iconst (v := (-1)) C.1 C.2.1 dX11_next_90 (by decide) ?_
            refine lv_icmp_ne (tgt := 96) C.1 C.2.1 dX11_next_91 (by decide) (fun c91 => ?_) (fun c91 => ?_)
            · rw [if_neg c91] at h
              refine lv_aload_n C.1 C.2.1 dX11_next_96 rfl (lv_at hl 0 rfl) ?_
              refine gX_0_findings C hX11_next_0_X11 hK hP mX11_next_0_3 dX11_next_97 ?_
              refine lv_iload_n C.1 C.2.1 dX11_next_100 rfl (lv_at hl 1 rfl) ?_
              refine lv_iload C.1 C.2.1 dX11_next_101 (lv_at hl 5 rfl) ?_
              refine lv_iload_n C.1 C.2.1 dX11_next_103 rfl (lv_at hl 2 rfl) ?_
              refine lv_iload C.1 C.2.1 dX11_next_104 (lv_at hl 6 rfl) ?_
              obtain ⟨⟨r26, u27⟩, hc28, h⟩ := bd_some h
              try dsimp only at h
              refine cg_v (As := [.int x1, .int v19, .int x2, .int v24]) (rest := []) C hK hP hS (metX1_tellApart_8 l D cy ad st hJ _ x1 v19 x2 v24 hc28) (cwV 4 C.2.2.2.2.2.1 gX11_next_X1_tellApart rfl rfl rfl (by decide +kernel) ⟨(Nat.le_of_ble_eq_true rfl), (Nat.le_of_ble_eq_true rfl)⟩) 8 1 rfl rfl rfl hl.1 rfl (Nat.le_of_ble_eq_true rfl) dX11_next_106 ⟨Nat.zero_le _, Nat.zero_le _⟩ (fun H locs hP hS => ?_)
              refine lv_iload C.1 C.2.1 dX11_next_109 (lv_at hl 4 rfl) ?_
              refine lv_if_ne (tgt := 124) C.1 C.2.1 dX11_next_111 (by decide) (fun c111 => ?_) (fun c111 => ?_)
              · rw [if_neg c111] at h
                refine lv_aload_n C.1 C.2.1 dX11_next_124 rfl (lv_at hl 0 rfl) ?_
                refine gX_0_findings C hX11_next_0_X11 hK hP mX11_next_0_3 dX11_next_125 ?_
                refine gX_8_farthest C hX11_next_0_X1 hK hP mX11_next_0_6 dX11_next_128 ?_
                cases h
                exact rt_i C hP hS dX11_next_131
              · rw [if_pos c111] at h
                refine lv_aload_n C.1 C.2.1 dX11_next_114 rfl (lv_at hl 0 rfl) ?_
                refine gX_0_findings C hX11_next_0_X11 hK hP mX11_next_0_3 dX11_next_115 ?_
                refine gX_8_farthestWave C hX11_next_0_X1 hK hP mX11_next_0_7 dX11_next_118 ?_
                refine lv_goto (tgt := 131) C.1 C.2.1 dX11_next_121 (by decide) ?_
                cases h
                exact rt_i C hP hS dX11_next_131
            · rw [if_pos c91] at h
              refine lv_iconst (v := (-1)) C.1 C.2.1 dX11_next_94 (by decide) ?_
              cases h
              exact rt_i C hP hS dX11_next_95
        · rw [if_pos c35] at h
          refine lv_iconst (v := (-1)) C.1 C.2.1 dX11_next_38 (by decide) ?_
          cases h
          exact rt_i C hP hS dX11_next_39
theorem metX11_next_0 (l : Launch) (D : va_G) (cy : Nat → ClassId) (ad st : Nat → Nat) (hJ : JX ad) (sz : Nat) (x1 : Int32) (x2 : Int32) (x3 : Int32) (x4 : Int32) {u : SX} {r : Int32} {u' : SX} (h : fX11_next_0 x1 x2 x3 x4 u = some (r, u')) : Met l yX11_next wsX11_next rmX11_next_0 (va_Pc [.ref (ad 0), .int x1, .int x2, .int x3, .int x4] (Px D [(cy 0, .int), (cy 1, .long), (cy 2, .boolean), (cy 3, .byte), (cy 4, .object "HissHorn$Text")] st (VX cy ad st) sz u)) (Qi D (VX cy ad st) (AX ad) sz r u') 0 0 (Ax (AX ad) sz) := by
  refine Met.ofW (cc := cX11_next) (maxL := 7) (ret := (some .int)) (by decide) rfl ?_
  intro p e s m args below meth c s₁ B hml hv
  obtain ⟨rfl, hsz, hP, hK⟩ := hv
  subst hsz
  have C : Cx RX11 cX11_next 7 (some .int) wsX11_next p s m _ meth c := ⟨B.exec, B.bytes, hml, B.returns, findClass_of_methodNamed B.named, atoms_spec (ws := wsX11_next) B.pre, B.notSynchronized⟩
  have hl := lv_entry ([.ref (ad 0), .int x1, .int x2, .int x3, .int x4]) (n := 7) (Nat.le_of_ble_eq_true rfl)
  rw [lg_entry_eq]
  exact wX11_next_0 C hK hJ x1 x2 x3 x4 h hP va_S.rf hl

theorem dX11_house_0 : decode cX11_house 0 = .ok (.aload_n 0, 1) := by decide +kernel
theorem dX11_house_1 : decode cX11_house 1 = .ok (.getfield 90, 3) := by decide +kernel
theorem dX11_house_4 : decode cX11_house 4 = .ok (.getfield 322, 3) := by decide +kernel
theorem dX11_house_7 : decode cX11_house 7 = .ok (.bipush 8, 2) := by decide +kernel
theorem dX11_house_9 : decode cX11_house 9 = .ok (.if_icmp .lt 5, 3) := by decide +kernel
theorem dX11_house_14 : decode cX11_house 14 = .ok (.aload_n 0, 1) := by decide +kernel
theorem dX11_house_15 : decode cX11_house 15 = .ok (.getfield 90, 3) := by decide +kernel
theorem dX11_house_18 : decode cX11_house 18 = .ok (.dup, 1) := by decide +kernel
theorem dX11_house_19 : decode cX11_house 19 = .ok (.getfield 322, 3) := by decide +kernel
theorem dX11_house_22 : decode cX11_house 22 = .ok (.iconst 1, 1) := by decide +kernel
theorem dX11_house_23 : decode cX11_house 23 = .ok (.iadd, 1) := by decide +kernel
theorem dX11_house_24 : decode cX11_house 24 = .ok (.putfield 322, 3) := by decide +kernel
theorem dX11_house_27 : decode cX11_house 27 = .ok (.aload_n 0, 1) := by decide +kernel
theorem dX11_house_28 : decode cX11_house 28 = .ok (.getfield 90, 3) := by decide +kernel
theorem dX11_house_31 : decode cX11_house 31 = .ok (.getfield 322, 3) := by decide +kernel
theorem dX11_house_34 : decode cX11_house 34 = .ok (.iconst 1, 1) := by decide +kernel
theorem dX11_house_35 : decode cX11_house 35 = .ok (.isub, 1) := by decide +kernel
theorem dX11_house_36 : decode cX11_house 36 = .ok (.ireturn, 1) := by decide +kernel
theorem dX11_house_12 : decode cX11_house 12 = .ok (.iconst (-1), 1) := by decide +kernel
theorem dX11_house_13 : decode cX11_house 13 = .ok (.ireturn, 1) := by decide +kernel
/-- HissHorn.house()I of cell 0 -/
def rmX11_house_0 : Room := { frames := 0, cells := 0, slots := 0, locals := 0 }
theorem hX11_house_0_X11 : ∀ w ∈ u_ws RX11 TX11 13, w ∈ wsX11_house := fun w h => (List.mem_cons_of_mem _ (List.mem_append_left _ (List.mem_append_right _ h)))
theorem mX11_house_0_1 : Cond.fieldLink RX11 90 "HissHorn" "houses" "LHissHorn$Houses;" ∈ wsX11_house := (List.mem_cons_of_mem _ (List.mem_append_left _ (List.mem_append_left _ (List.mem_of_getElem? (i := 0) rfl))))
theorem hX11_house_0_X2 : ∀ w ∈ u_ws RX2 TX2 18, w ∈ wsX11_house := fun w h => (List.mem_cons_of_mem _ (List.mem_append_right _ h))
theorem mX11_house_0_3 : Cond.fieldLink RX11 322 "HissHorn$Houses" "size" "I" ∈ wsX11_house := (List.mem_cons_of_mem _ (List.mem_append_left _ (List.mem_append_left _ (List.mem_of_getElem? (i := 1) rfl))))
def fX11_house_0  (u : SX) : Option (Int32 × SX) := (if (u.1 35) < 8 then (lt (sI u 35 ((u.1 35) + 1)) fun u1 => (some ((u1.1 35) - 1, u1))) else (some ((-1), u)))
set_option maxHeartbeats 4000000 in
set_option maxRecDepth 100000 in
theorem wX11_house_0 {p : Program} {l : Launch} {e : Env} {s : State} {m : MethodId} {args : Array Value} {below : List Frame} {meth : Method} {c : Code} {D : va_G} {cy : Nat → ClassId} {ad st : Nat → Nat} (C : Cx RX11 cX11_house 1 (some .int) wsX11_house p s m args meth c) (hK : Kx D [(cy 0, .int), (cy 1, .long), (cy 2, .boolean), (cy 3, .byte), (cy 4, .object "HissHorn$Text")] st s) (hJ : JX ad)  {u : SX} {r : Int32} {u' : SX} {H : Heap} {locs : List Loc} {ls : Array Slot} (h : fX11_house_0  u = some (r, u')) (hP : va_P D vwCl (VX cy ad st u) H) (hS : va_S (Ax (AX ad) s.heap.size) s.heap H locs) (hl : lv_has ls 1 [(0, .ref (ad 0))]) : W p l e rmX11_house_0 s m args below meth c H locs 0 0 (MQ below (Qi D (VX cy ad st) (AX ad) s.heap.size r u') args s 0 0 (Ax (AX ad) s.heap.size)) (F0 m 0 ls []) := by
  unfold fX11_house_0 at h
  refine lv_aload_n C.1 C.2.1 dX11_house_0 rfl (lv_at hl 0 rfl) ?_
  refine gX_0_houses C hX11_house_0_X11 hK hP mX11_house_0_1 dX11_house_1 ?_
  refine gX_11_size C hX11_house_0_X2 hK hP mX11_house_0_3 dX11_house_4 ?_
  refine lv_bipush (v := 8) C.1 C.2.1 dX11_house_7 (by decide) ?_
  refine lv_icmp_lt (tgt := 14) C.1 C.2.1 dX11_house_9 (by decide) (fun c9 => ?_) (fun c9 => ?_)
  · rw [if_pos c9] at h
    refine lv_aload_n C.1 C.2.1 dX11_house_14 rfl (lv_at hl 0 rfl) ?_
    refine gX_0_houses C hX11_house_0_X11 hK hP mX11_house_0_1 dX11_house_15 ?_
    refine lv_dup C.1 C.2.1 dX11_house_18 rfl ?_
    refine gX_11_size C hX11_house_0_X2 hK hP mX11_house_0_3 dX11_house_19 ?_
    refine lv_iconst (v := 1) C.1 C.2.1 dX11_house_22 (by decide) ?_
    refine lv_iadd C.1 C.2.1 dX11_house_23 ?_
    refine pX_11_size C hX11_house_0_X2 hK hP hJ hS mX11_house_0_3 dX11_house_24 (fun H locs hP hS => ?_)
    obtain ⟨u1, hu2, h⟩ := lt_some h
    rw [← hu2] at hP
    refine lv_aload_n C.1 C.2.1 dX11_house_27 rfl (lv_at hl 0 rfl) ?_
    refine gX_0_houses C hX11_house_0_X11 hK hP mX11_house_0_1 dX11_house_28 ?_
    refine gX_11_size C hX11_house_0_X2 hK hP mX11_house_0_3 dX11_house_31 ?_
    refine lv_iconst (v := 1) C.1 C.2.1 dX11_house_34 (by decide) ?_
    refine lv_isub C.1 C.2.1 dX11_house_35 ?_
    cases h
    exact rt_i C hP hS dX11_house_36
  · rw [if_neg c9] at h
    refine lv_iconst (v := (-1)) C.1 C.2.1 dX11_house_12 (by decide) ?_
    cases h
    exact rt_i C hP hS dX11_house_13
theorem metX11_house_0 (l : Launch) (D : va_G) (cy : Nat → ClassId) (ad st : Nat → Nat) (hJ : JX ad) (sz : Nat)  {u : SX} {r : Int32} {u' : SX} (h : fX11_house_0  u = some (r, u')) : Met l yX11_house wsX11_house rmX11_house_0 (va_Pc [.ref (ad 0)] (Px D [(cy 0, .int), (cy 1, .long), (cy 2, .boolean), (cy 3, .byte), (cy 4, .object "HissHorn$Text")] st (VX cy ad st) sz u)) (Qi D (VX cy ad st) (AX ad) sz r u') 0 0 (Ax (AX ad) sz) := by
  refine Met.ofW (cc := cX11_house) (maxL := 1) (ret := (some .int)) (by decide) rfl ?_
  intro p e s m args below meth c s₁ B hml hv
  obtain ⟨rfl, hsz, hP, hK⟩ := hv
  subst hsz
  have C : Cx RX11 cX11_house 1 (some .int) wsX11_house p s m _ meth c := ⟨B.exec, B.bytes, hml, B.returns, findClass_of_methodNamed B.named, atoms_spec (ws := wsX11_house) B.pre, B.notSynchronized⟩
  have hl := lv_entry ([.ref (ad 0)]) (n := 1) (Nat.le_of_ble_eq_true rfl)
  rw [lg_entry_eq]
  exact wX11_house_0 C hK hJ h hP va_S.rf hl

theorem dX2_has_0 : decode cX2_has 0 = .ok (.iload_n 1, 1) := by decide +kernel
theorem dX2_has_1 : decode cX2_has 1 = .ok (.ifCond .lt 15, 3) := by decide +kernel
theorem dX2_has_16 : decode cX2_has 16 = .ok (.iconst 0, 1) := by decide +kernel
theorem dX2_has_17 : decode cX2_has 17 = .ok (.ireturn, 1) := by decide +kernel
theorem dX2_has_4 : decode cX2_has 4 = .ok (.iload_n 1, 1) := by decide +kernel
theorem dX2_has_5 : decode cX2_has 5 = .ok (.aload_n 0, 1) := by decide +kernel
theorem dX2_has_6 : decode cX2_has 6 = .ok (.getfield 50, 3) := by decide +kernel
theorem dX2_has_9 : decode cX2_has 9 = .ok (.if_icmp .ge 7, 3) := by decide +kernel
theorem dX2_has_12 : decode cX2_has 12 = .ok (.iconst 1, 1) := by decide +kernel
theorem dX2_has_13 : decode cX2_has 13 = .ok (.goto 4, 3) := by decide +kernel
/-- HissHorn$Houses.has(I)Z of cell 11 -/
def rmX2_has_11 : Room := { frames := 0, cells := 0, slots := 0, locals := 0 }
theorem hX2_has_11_X2 : ∀ w ∈ u_ws RX2 TX2 18, w ∈ wsX2_has := fun w h => (List.mem_cons_of_mem _ (List.mem_append_right _ h))
theorem mX2_has_11_1 : Cond.fieldLink RX2 50 "HissHorn$Houses" "size" "I" ∈ wsX2_has := (List.mem_cons_of_mem _ (List.mem_append_left _ (List.mem_of_getElem? (i := 0) rfl)))
def fX2_has_11 (x1 : Int32) (u : SX) : Option (Int32 × SX) := (if x1 < 0 then (gd (isB 0) (some (0, u))) else (if (u.1 35) ≤ x1 then (gd (isB 0) (some (0, u))) else (gd (isB 1) (some (1, u)))))
set_option maxHeartbeats 4000000 in
set_option maxRecDepth 100000 in
theorem wX2_has_11 {p : Program} {l : Launch} {e : Env} {s : State} {m : MethodId} {args : Array Value} {below : List Frame} {meth : Method} {c : Code} {D : va_G} {cy : Nat → ClassId} {ad st : Nat → Nat} (C : Cx RX2 cX2_has 2 (some .boolean) wsX2_has p s m args meth c) (hK : Kx D [(cy 0, .int), (cy 1, .long), (cy 2, .boolean), (cy 3, .byte), (cy 4, .object "HissHorn$Text")] st s) (hJ : JX ad) (x1 : Int32) {u : SX} {r : Int32} {u' : SX} {H : Heap} {locs : List Loc} {ls : Array Slot} (h : fX2_has_11 x1 u = some (r, u')) (hP : va_P D vwCl (VX cy ad st u) H) (hS : va_S (Ax (AX ad) s.heap.size) s.heap H locs) (hl : lv_has ls 2 [(0, .ref (ad 11)), (1, .int x1)]) : W p l e rmX2_has_11 s m args below meth c H locs 0 0 (MQ below (Qi D (VX cy ad st) (AX ad) s.heap.size r u') args s 0 0 (Ax (AX ad) s.heap.size)) (F0 m 0 ls []) := by
  unfold fX2_has_11 at h
  refine lv_iload_n C.1 C.2.1 dX2_has_0 rfl (lv_at hl 1 rfl) ?_
  refine lv_if_lt (tgt := 16) C.1 C.2.1 dX2_has_1 (by decide) (fun c1 => ?_) (fun c1 => ?_)
  · rw [if_pos c1] at h
    refine lv_iconst (v := 0) C.1 C.2.1 dX2_has_16 (by decide) ?_
    obtain ⟨hg1, h⟩ := gd_some h
    cases h
    exact rt_z hg1 C hP hS dX2_has_17
  · rw [if_neg c1] at h
    refine lv_iload_n C.1 C.2.1 dX2_has_4 rfl (lv_at hl 1 rfl) ?_
    refine lv_aload_n C.1 C.2.1 dX2_has_5 rfl (lv_at hl 0 rfl) ?_
    refine gX_11_size C hX2_has_11_X2 hK hP mX2_has_11_1 dX2_has_6 ?_
    refine lv_icmp_ge (tgt := 16) C.1 C.2.1 dX2_has_9 (by decide) (fun c9 => ?_) (fun c9 => ?_)
    · rw [if_pos c9] at h
      refine lv_iconst (v := 0) C.1 C.2.1 dX2_has_16 (by decide) ?_
      obtain ⟨hg2, h⟩ := gd_some h
      cases h
      exact rt_z hg2 C hP hS dX2_has_17
    · rw [if_neg c9] at h
      refine lv_iconst (v := 1) C.1 C.2.1 dX2_has_12 (by decide) ?_
      refine lv_goto (tgt := 17) C.1 C.2.1 dX2_has_13 (by decide) ?_
      obtain ⟨hg3, h⟩ := gd_some h
      cases h
      exact rt_z hg3 C hP hS dX2_has_17
theorem metX2_has_11 (l : Launch) (D : va_G) (cy : Nat → ClassId) (ad st : Nat → Nat) (hJ : JX ad) (sz : Nat) (x1 : Int32) {u : SX} {r : Int32} {u' : SX} (h : fX2_has_11 x1 u = some (r, u')) : Met l yX2_has wsX2_has rmX2_has_11 (va_Pc [.ref (ad 11), .int x1] (Px D [(cy 0, .int), (cy 1, .long), (cy 2, .boolean), (cy 3, .byte), (cy 4, .object "HissHorn$Text")] st (VX cy ad st) sz u)) (Qi D (VX cy ad st) (AX ad) sz r u') 0 0 (Ax (AX ad) sz) := by
  refine Met.ofW (cc := cX2_has) (maxL := 2) (ret := (some .boolean)) (by decide) rfl ?_
  intro p e s m args below meth c s₁ B hml hv
  obtain ⟨rfl, hsz, hP, hK⟩ := hv
  subst hsz
  have C : Cx RX2 cX2_has 2 (some .boolean) wsX2_has p s m _ meth c := ⟨B.exec, B.bytes, hml, B.returns, findClass_of_methodNamed B.named, atoms_spec (ws := wsX2_has) B.pre, B.notSynchronized⟩
  have hl := lv_entry ([.ref (ad 11), .int x1]) (n := 2) (Nat.le_of_ble_eq_true rfl)
  rw [lg_entry_eq]
  exact wX2_has_11 C hK hJ x1 h hP va_S.rf hl

theorem dX2_paperBit_0 : decode cX2_paperBit 0 = .ok (.lconst 1, 1) := by decide +kernel
theorem dX2_paperBit_1 : decode cX2_paperBit 1 = .ok (.bipush 40, 2) := by decide +kernel
theorem dX2_paperBit_3 : decode cX2_paperBit 3 = .ok (.iload_n 0, 1) := by decide +kernel
theorem dX2_paperBit_4 : decode cX2_paperBit 4 = .ok (.iadd, 1) := by decide +kernel
theorem dX2_paperBit_5 : decode cX2_paperBit 5 = .ok (.lshl, 1) := by decide +kernel
theorem dX2_paperBit_6 : decode cX2_paperBit 6 = .ok (.lreturn, 1) := by decide +kernel
/-- HissHorn$Houses.paperBit(I)J -/
def rmX2_paperBit : Room := { frames := 0, cells := 0, slots := 0, locals := 0 }
def fX2_paperBit (x0 : Int32) : Option Int64 := (some ((1 : Int64) <<< ((40 + x0).toInt64 &&& 63)))
set_option maxHeartbeats 4000000 in
set_option maxRecDepth 100000 in
theorem wX2_paperBit {p : Program} {l : Launch} {e : Env} {s : State} {m : MethodId} {args : Array Value} {below : List Frame} {meth : Method} {c : Code} {D : va_G} {cy : Nat → ClassId} {st : Nat → Nat} (C : Cx RX2 cX2_paperBit 1 (some .long) wsX2_paperBit p s m args meth c) (hK : Kx D [(cy 0, .int), (cy 1, .long), (cy 2, .boolean), (cy 3, .byte), (cy 4, .object "HissHorn$Text")] st s) (x0 : Int32) {r : Int64} {H : Heap} {locs : List Loc} {ls : Array Slot} (h : fX2_paperBit x0 = some r) (hP : va_P D vwCl (V0 u00) H) (hS : va_S (Ax (A0) s.heap.size) s.heap H locs) (hl : lv_has ls 1 [(0, .int x0)]) : W p l e rmX2_paperBit s m args below meth c H locs 0 0 (MQ below (Ql D (V0) (A0) s.heap.size r u00) args s 0 0 (Ax (A0) s.heap.size)) (F0 m 0 ls []) := by
  unfold fX2_paperBit at h
  refine lv_lconst (v := 1) C.1 C.2.1 dX2_paperBit_0 (by decide) ?_
  refine lv_bipush (v := 40) C.1 C.2.1 dX2_paperBit_1 (by decide) ?_
  refine lv_iload_n C.1 C.2.1 dX2_paperBit_3 rfl (lv_at hl 0 rfl) ?_
  refine lv_iadd C.1 C.2.1 dX2_paperBit_4 ?_
  refine lv_lshl (v := (1 : Int64) <<< ((40 + x0).toInt64 &&& 63)) C.1 C.2.1 dX2_paperBit_5 rfl ?_
  cases h
  exact rt_l C hP hS dX2_paperBit_6
theorem metX2_paperBit (l : Launch) (D : va_G) (cy : Nat → ClassId) (st : Nat → Nat) (sz : Nat) (x0 : Int32) {r : Int64} (h : fX2_paperBit x0 = some r) : Met l yX2_paperBit wsX2_paperBit rmX2_paperBit (va_Pc [.int x0] (Px D [(cy 0, .int), (cy 1, .long), (cy 2, .boolean), (cy 3, .byte), (cy 4, .object "HissHorn$Text")] st V0 sz u00)) (Ql D V0 A0 sz r u00) 0 0 (Ax A0 sz) := by
  refine Met.ofW (cc := cX2_paperBit) (maxL := 1) (ret := (some .long)) (by decide) rfl ?_
  intro p e s m args below meth c s₁ B hml hv
  obtain ⟨rfl, hsz, hP, hK⟩ := hv
  subst hsz
  have C : Cx RX2 cX2_paperBit 1 (some .long) wsX2_paperBit p s m _ meth c := ⟨B.exec, B.bytes, hml, B.returns, findClass_of_methodNamed B.named, atoms_spec (ws := wsX2_paperBit) B.pre, B.notSynchronized⟩
  have hl := lv_entry ([.int x0]) (n := 1) (Nat.le_of_ble_eq_true rfl)
  rw [lg_entry_eq]
  exact wX2_paperBit C hK x0 h hP va_S.rf hl

theorem dX2_printBit_0 : decode cX2_printBit 0 = .ok (.lconst 1, 1) := by decide +kernel
theorem dX2_printBit_1 : decode cX2_printBit 1 = .ok (.iload_n 0, 1) := by decide +kernel
theorem dX2_printBit_2 : decode cX2_printBit 2 = .ok (.lshl, 1) := by decide +kernel
theorem dX2_printBit_3 : decode cX2_printBit 3 = .ok (.lreturn, 1) := by decide +kernel
/-- HissHorn$Houses.printBit(I)J -/
def rmX2_printBit : Room := { frames := 0, cells := 0, slots := 0, locals := 0 }
def fX2_printBit (x0 : Int32) : Option Int64 := (some ((1 : Int64) <<< (x0.toInt64 &&& 63)))
set_option maxHeartbeats 4000000 in
set_option maxRecDepth 100000 in
theorem wX2_printBit {p : Program} {l : Launch} {e : Env} {s : State} {m : MethodId} {args : Array Value} {below : List Frame} {meth : Method} {c : Code} {D : va_G} {cy : Nat → ClassId} {st : Nat → Nat} (C : Cx RX2 cX2_printBit 1 (some .long) wsX2_printBit p s m args meth c) (hK : Kx D [(cy 0, .int), (cy 1, .long), (cy 2, .boolean), (cy 3, .byte), (cy 4, .object "HissHorn$Text")] st s) (x0 : Int32) {r : Int64} {H : Heap} {locs : List Loc} {ls : Array Slot} (h : fX2_printBit x0 = some r) (hP : va_P D vwCl (V0 u00) H) (hS : va_S (Ax (A0) s.heap.size) s.heap H locs) (hl : lv_has ls 1 [(0, .int x0)]) : W p l e rmX2_printBit s m args below meth c H locs 0 0 (MQ below (Ql D (V0) (A0) s.heap.size r u00) args s 0 0 (Ax (A0) s.heap.size)) (F0 m 0 ls []) := by
  unfold fX2_printBit at h
  refine lv_lconst (v := 1) C.1 C.2.1 dX2_printBit_0 (by decide) ?_
  refine lv_iload_n C.1 C.2.1 dX2_printBit_1 rfl (lv_at hl 0 rfl) ?_
  refine lv_lshl (v := (1 : Int64) <<< (x0.toInt64 &&& 63)) C.1 C.2.1 dX2_printBit_2 rfl ?_
  cases h
  exact rt_l C hP hS dX2_printBit_3
theorem metX2_printBit (l : Launch) (D : va_G) (cy : Nat → ClassId) (st : Nat → Nat) (sz : Nat) (x0 : Int32) {r : Int64} (h : fX2_printBit x0 = some r) : Met l yX2_printBit wsX2_printBit rmX2_printBit (va_Pc [.int x0] (Px D [(cy 0, .int), (cy 1, .long), (cy 2, .boolean), (cy 3, .byte), (cy 4, .object "HissHorn$Text")] st V0 sz u00)) (Ql D V0 A0 sz r u00) 0 0 (Ax A0 sz) := by
  refine Met.ofW (cc := cX2_printBit) (maxL := 1) (ret := (some .long)) (by decide) rfl ?_
  intro p e s m args below meth c s₁ B hml hv
  obtain ⟨rfl, hsz, hP, hK⟩ := hv
  subst hsz
  have C : Cx RX2 cX2_printBit 1 (some .long) wsX2_printBit p s m _ meth c := ⟨B.exec, B.bytes, hml, B.returns, findClass_of_methodNamed B.named, atoms_spec (ws := wsX2_printBit) B.pre, B.notSynchronized⟩
  have hl := lv_entry ([.int x0]) (n := 1) (Nat.le_of_ble_eq_true rfl)
  rw [lg_entry_eq]
  exact wX2_printBit C hK x0 h hP va_S.rf hl

theorem dX2_compare_35 : decode cX2_compare 35 = .ok (.istore_n 3, 1) := by decide +kernel
theorem dX2_compare_36 : decode cX2_compare 36 = .ok (.aload_n 0, 1) := by decide +kernel
theorem dX2_compare_37 : decode cX2_compare 37 = .ok (.getfield 25, 3) := by decide +kernel
theorem dX2_compare_40 : decode cX2_compare 40 = .ok (.iload_n 1, 1) := by decide +kernel
theorem dX2_compare_41 : decode cX2_compare 41 = .ok (.iaload, 1) := by decide +kernel
theorem dX2_compare_42 : decode cX2_compare 42 = .ok (.ifCond .le 38, 3) := by decide +kernel
theorem dX2_compare_80 : decode cX2_compare 80 = .ok (.return_, 1) := by decide +kernel
theorem dX2_compare_45 : decode cX2_compare 45 = .ok (.iload_n 3, 1) := by decide +kernel
theorem dX2_compare_46 : decode cX2_compare 46 = .ok (.ifCond .eq 34, 3) := by decide +kernel
theorem dX2_compare_49 : decode cX2_compare 49 = .ok (.aload_n 0, 1) := by decide +kernel
theorem dX2_compare_50 : decode cX2_compare 50 = .ok (.getfield 40, 3) := by decide +kernel
theorem dX2_compare_53 : decode cX2_compare 53 = .ok (.iload_n 1, 1) := by decide +kernel
theorem dX2_compare_54 : decode cX2_compare 54 = .ok (.dup2, 1) := by decide +kernel
theorem dX2_compare_55 : decode cX2_compare 55 = .ok (.laload, 1) := by decide +kernel
theorem dX2_compare_56 : decode cX2_compare 56 = .ok (.iload_n 2, 1) := by decide +kernel
set_option maxRecDepth 20000 in
theorem ggX2_compare_X2_paperBit : GoodIn wsX2_compare wsX2_paperBit := goodIn_r _ [10] (by decide +kernel) (by decide +kernel)
set_option maxRecDepth 20000 in
theorem gX2_compare_X2_paperBit : GoodIn wsX2_compare (va_wsS RX2 72 yX2_paperBit wsX2_paperBit) := goodIn_app (goodIn_of _ (by decide +kernel)) ggX2_compare_X2_paperBit
theorem dX2_compare_57 : decode cX2_compare 57 = .ok (.invokestatic 72, 3) := by decide +kernel
theorem dX2_compare_60 : decode cX2_compare 60 = .ok (.lor, 1) := by decide +kernel
theorem dX2_compare_61 : decode cX2_compare 61 = .ok (.lastore, 1) := by decide +kernel
theorem dX2_compare_62 : decode cX2_compare 62 = .ok (.aload_n 0, 1) := by decide +kernel
theorem dX2_compare_63 : decode cX2_compare 63 = .ok (.dup, 1) := by decide +kernel
theorem dX2_compare_64 : decode cX2_compare 64 = .ok (.getfield 75, 3) := by decide +kernel
theorem dX2_compare_67 : decode cX2_compare 67 = .ok (.iload_n 1, 1) := by decide +kernel
set_option maxRecDepth 20000 in
theorem ggX2_compare_X2_printBit : GoodIn wsX2_compare wsX2_printBit := goodIn_r _ [13] (by decide +kernel) (by decide +kernel)
set_option maxRecDepth 20000 in
theorem gX2_compare_X2_printBit : GoodIn wsX2_compare (va_wsS RX2 64 yX2_printBit wsX2_printBit) := goodIn_app (goodIn_of _ (by decide +kernel)) ggX2_compare_X2_printBit
theorem dX2_compare_68 : decode cX2_compare 68 = .ok (.invokestatic 64, 3) := by decide +kernel
theorem dX2_compare_71 : decode cX2_compare 71 = .ok (.iload_n 2, 1) := by decide +kernel
theorem dX2_compare_72 : decode cX2_compare 72 = .ok (.invokestatic 72, 3) := by decide +kernel
theorem dX2_compare_75 : decode cX2_compare 75 = .ok (.lor, 1) := by decide +kernel
theorem dX2_compare_76 : decode cX2_compare 76 = .ok (.lor, 1) := by decide +kernel
theorem dX2_compare_77 : decode cX2_compare 77 = .ok (.putfield 75, 3) := by decide +kernel
theorem dX2_compare_34 : decode cX2_compare 34 = .ok (.iconst 0, 1) := by decide +kernel
theorem dX2_compare_0 : decode cX2_compare 0 = .ok (.aload_n 0, 1) := by decide +kernel
theorem dX2_compare_1 : decode cX2_compare 1 = .ok (.getfield 25, 3) := by decide +kernel
theorem dX2_compare_4 : decode cX2_compare 4 = .ok (.iload_n 1, 1) := by decide +kernel
theorem dX2_compare_5 : decode cX2_compare 5 = .ok (.iaload, 1) := by decide +kernel
theorem dX2_compare_6 : decode cX2_compare 6 = .ok (.aload_n 0, 1) := by decide +kernel
theorem dX2_compare_7 : decode cX2_compare 7 = .ok (.getfield 37, 3) := by decide +kernel
theorem dX2_compare_10 : decode cX2_compare 10 = .ok (.iload_n 2, 1) := by decide +kernel
theorem dX2_compare_11 : decode cX2_compare 11 = .ok (.iaload, 1) := by decide +kernel
theorem dX2_compare_12 : decode cX2_compare 12 = .ok (.if_icmp .gt 22, 3) := by decide +kernel
theorem dX2_compare_15 : decode cX2_compare 15 = .ok (.aload_n 0, 1) := by decide +kernel
theorem dX2_compare_16 : decode cX2_compare 16 = .ok (.getfield 34, 3) := by decide +kernel
theorem dX2_compare_19 : decode cX2_compare 19 = .ok (.iload_n 2, 1) := by decide +kernel
theorem dX2_compare_20 : decode cX2_compare 20 = .ok (.iaload, 1) := by decide +kernel
theorem dX2_compare_21 : decode cX2_compare 21 = .ok (.aload_n 0, 1) := by decide +kernel
theorem dX2_compare_22 : decode cX2_compare 22 = .ok (.getfield 28, 3) := by decide +kernel
theorem dX2_compare_25 : decode cX2_compare 25 = .ok (.iload_n 1, 1) := by decide +kernel
theorem dX2_compare_26 : decode cX2_compare 26 = .ok (.iaload, 1) := by decide +kernel
theorem dX2_compare_27 : decode cX2_compare 27 = .ok (.if_icmp .gt 7, 3) := by decide +kernel
theorem dX2_compare_30 : decode cX2_compare 30 = .ok (.iconst 1, 1) := by decide +kernel
theorem dX2_compare_31 : decode cX2_compare 31 = .ok (.goto 4, 3) := by decide +kernel
/-- HissHorn$Houses.compare(II)V of cell 11 -/
def rmX2_compare_11 : Room := { frames := 1, cells := 0, slots := 0, locals := 20 }
theorem hX2_compare_11_X2 : ∀ w ∈ u_ws RX2 TX2 18, w ∈ wsX2_compare := fun w h => (List.mem_cons_of_mem _ (List.mem_append_right _ h))
theorem mX2_compare_11_1 : Cond.fieldLink RX2 25 "HissHorn$Houses" "printFrom" "[I" ∈ wsX2_compare := (List.mem_cons_of_mem _ (List.mem_append_left _ (List.mem_of_getElem? (i := 0) rfl)))
theorem mX2_compare_11_2 : Cond.fieldLink RX2 37 "HissHorn$Houses" "paperTo" "[I" ∈ wsX2_compare := (List.mem_cons_of_mem _ (List.mem_append_left _ (List.mem_of_getElem? (i := 1) rfl)))
theorem mX2_compare_11_3 : Cond.fieldLink RX2 40 "HissHorn$Houses" "meets" "[J" ∈ wsX2_compare := (List.mem_cons_of_mem _ (List.mem_append_left _ (List.mem_of_getElem? (i := 4) rfl)))
theorem mX2_compare_11_4 : Cond.fieldLink RX2 75 "HissHorn$Houses" "matters" "J" ∈ wsX2_compare := (List.mem_cons_of_mem _ (List.mem_append_left _ (List.mem_of_getElem? (i := 5) rfl)))
def GX2_compare_11_35 (z1 : Int32) (z2 : Int32) (y0 : Int32) (u : SX) : Option (Int32 × SX) := (gd (inb z1 40) (if (u.2.1 63 z1.toNatClampNeg) ≤ 0 then (some (0, u)) else (if y0 = 0 then (some (0, u)) else (gd (inb z1 40) ((fX2_paperBit z2).bind fun r5 => (gd (inb z1 40) (lt (sB u 68 (vp_updL (u.2.2.2 68) z1.toNatClampNeg ((u.2.2.2 68 z1.toNatClampNeg) ||| r5))) fun u9 => ((fX2_printBit z1).bind fun r11 => ((fX2_paperBit z2).bind fun r14 => (lt (sJ u9 0 ((u9.2.2.1 0) ||| (r11 ||| r14))) fun u17 => (some (0, u17))))))))))))
def GX2_compare_11_34 (z1 : Int32) (z2 : Int32) (u : SX) : Option (Int32 × SX) := (GX2_compare_11_35 z1 z2 0 u)
theorem mX2_compare_11_5 : Cond.fieldLink RX2 34 "HissHorn$Houses" "paperFrom" "[I" ∈ wsX2_compare := (List.mem_cons_of_mem _ (List.mem_append_left _ (List.mem_of_getElem? (i := 2) rfl)))
theorem mX2_compare_11_6 : Cond.fieldLink RX2 28 "HissHorn$Houses" "printTo" "[I" ∈ wsX2_compare := (List.mem_cons_of_mem _ (List.mem_append_left _ (List.mem_of_getElem? (i := 3) rfl)))
def fX2_compare_11 (x1 : Int32) (x2 : Int32) (u : SX) : Option (Int32 × SX) := (gd (inb x1 40) (gd (inb x2 20) (if (u.2.1 67 x2.toNatClampNeg) < (u.2.1 63 x1.toNatClampNeg) then (GX2_compare_11_34 x1 x2 u) else (gd (inb x2 20) (gd (inb x1 40) (if (u.2.1 64 x1.toNatClampNeg) < (u.2.1 66 x2.toNatClampNeg) then (GX2_compare_11_34 x1 x2 u) else (GX2_compare_11_35 x1 x2 1 u)))))))
set_option maxHeartbeats 4000000 in
set_option maxRecDepth 100000 in
theorem wGX2_compare_11_35 {p : Program} {l : Launch} {e : Env} {s : State} {m : MethodId} {args : Array Value} {below : List Frame} {meth : Method} {c : Code} {D : va_G} {cy : Nat → ClassId} {ad st : Nat → Nat} (C : Cx RX2 cX2_compare 4 none wsX2_compare p s m args meth c) (hK : Kx D [(cy 0, .int), (cy 1, .long), (cy 2, .boolean), (cy 3, .byte), (cy 4, .object "HissHorn$Text")] st s) (hJ : JX ad) {r : Int32} {u' : SX}   (z1 : Int32) (z2 : Int32) (y0 : Int32) (u : SX) (H : Heap) (locs : List Loc) (ls : Array Slot) (h : GX2_compare_11_35 z1 z2 y0 u = some (r, u')) (hP : va_P D vwCl (VX cy ad st u) H) (hS : va_S (Ax (AX ad) s.heap.size) s.heap H locs) (hl : lv_has ls 4 [(0, .ref (ad 11)), (1, .int z1), (2, .int z2)]) : W p l e rmX2_compare_11 s m args below meth c H locs 0 0 (MQ below (Qv D (VX cy ad st) (AX ad) s.heap.size r u') args s 0 0 (Ax (AX ad) s.heap.size)) (F0 m 35 ls [.int y0]) := by
  unfold GX2_compare_11_35 at h
  refine lv_istore_n (lv' := [(3, .int y0), (0, .ref (ad 11)), (1, .int z1), (2, .int z2)]) C.1 C.2.1 dX2_compare_35 rfl hl (by decide) rfl (fun ls hl => ?_)
  replace hl := lv_sub (l' := [(0, .ref (ad 11)), (1, .int z1), (2, .int z2), (3, .int y0)]) hl [1, 2, 3, 0] rfl
  refine lv_aload_n C.1 C.2.1 dX2_compare_36 rfl (lv_at hl 0 rfl) ?_
  refine gX_11_printFrom C hX2_compare_11_X2 hK hP mX2_compare_11_1 dX2_compare_37 ?_
  refine lv_iload_n C.1 C.2.1 dX2_compare_40 rfl (lv_at hl 1 rfl) ?_
  obtain ⟨hg3, h⟩ := gd_some h
  refine lX_63 C hK hP hg3 dX2_compare_41 ?_
  refine lv_if_le (tgt := 80) C.1 C.2.1 dX2_compare_42 (by decide) (fun c42 => ?_) (fun c42 => ?_)
  · rw [if_pos c42] at h
    cases h
    exact rt_v C hP hS dX2_compare_80
  · rw [if_neg c42] at h
    refine lv_iload_n C.1 C.2.1 dX2_compare_45 rfl (lv_at hl 3 rfl) ?_
    refine lv_if_eq (tgt := 80) C.1 C.2.1 dX2_compare_46 (by decide) (fun c46 => ?_) (fun c46 => ?_)
    · rw [if_pos c46] at h
      cases h
      exact rt_v C hP hS dX2_compare_80
    · rw [if_neg c46] at h
      refine lv_aload_n C.1 C.2.1 dX2_compare_49 rfl (lv_at hl 0 rfl) ?_
      refine gX_11_meets C hX2_compare_11_X2 hK hP mX2_compare_11_3 dX2_compare_50 ?_
      refine lv_iload_n C.1 C.2.1 dX2_compare_53 rfl (lv_at hl 1 rfl) ?_
      refine lv_dup2_11 C.1 C.2.1 dX2_compare_54 rfl rfl ?_
      obtain ⟨hg4, h⟩ := gd_some h
      refine lX_68 C hK hP hg4 dX2_compare_55 ?_
      refine lv_iload_n C.1 C.2.1 dX2_compare_56 rfl (lv_at hl 2 rfl) ?_
      obtain ⟨r5, hc7, h⟩ := bd_some h
      refine cs_l (As := [.int z2]) (rest := [.long (u.2.2.2 68 z1.toNatClampNeg), .int z1, .ref (ad 68)]) C hK hP hS (metX2_paperBit l D cy st _ z2 hc7) (va_cwS 1 C.2.2.2.2.2.1 gX2_compare_X2_paperBit rfl rfl rfl (by decide +kernel) ⟨(Nat.le_of_ble_eq_true rfl), (Nat.le_of_ble_eq_true rfl)⟩) rfl hl.1 rfl (Nat.le_of_ble_eq_true rfl) dX2_compare_57 ⟨Nat.zero_le _, Nat.zero_le _⟩ (fun H locs hP hS => ?_)
      refine lv_lor C.1 C.2.1 dX2_compare_60 ?_
      obtain ⟨hg8, h⟩ := gd_some h
      refine tX_68 C hK hP hJ hS hg8 dX2_compare_61 (fun H locs hP hS => ?_)
      obtain ⟨u9, hu10, h⟩ := lt_some h
      rw [← hu10] at hP
      refine lv_aload_n C.1 C.2.1 dX2_compare_62 rfl (lv_at hl 0 rfl) ?_
      refine lv_dup C.1 C.2.1 dX2_compare_63 rfl ?_
      refine gX_11_matters C hX2_compare_11_X2 hK hP mX2_compare_11_4 dX2_compare_64 ?_
      refine lv_iload_n C.1 C.2.1 dX2_compare_67 rfl (lv_at hl 1 rfl) ?_
      obtain ⟨r11, hc13, h⟩ := bd_some h
      refine cs_l (As := [.int z1]) (rest := [.long (u9.2.2.1 0), .ref (ad 11)]) C hK hP hS (metX2_printBit l D cy st _ z1 hc13) (va_cwS 1 C.2.2.2.2.2.1 gX2_compare_X2_printBit rfl rfl rfl (by decide +kernel) ⟨(Nat.le_of_ble_eq_true rfl), (Nat.le_of_ble_eq_true rfl)⟩) rfl hl.1 rfl (Nat.le_of_ble_eq_true rfl) dX2_compare_68 ⟨Nat.zero_le _, Nat.zero_le _⟩ (fun H locs hP hS => ?_)
      refine lv_iload_n C.1 C.2.1 dX2_compare_71 rfl (lv_at hl 2 rfl) ?_
      obtain ⟨r14, hc16, h⟩ := bd_some h
      refine cs_l (As := [.int z2]) (rest := [.long r11, .long (u9.2.2.1 0), .ref (ad 11)]) C hK hP hS (metX2_paperBit l D cy st _ z2 hc16) (va_cwS 1 C.2.2.2.2.2.1 gX2_compare_X2_paperBit rfl rfl rfl (by decide +kernel) ⟨(Nat.le_of_ble_eq_true rfl), (Nat.le_of_ble_eq_true rfl)⟩) rfl hl.1 rfl (Nat.le_of_ble_eq_true rfl) dX2_compare_72 ⟨Nat.zero_le _, Nat.zero_le _⟩ (fun H locs hP hS => ?_)
      refine lv_lor C.1 C.2.1 dX2_compare_75 ?_
      refine lv_lor C.1 C.2.1 dX2_compare_76 ?_
      refine pX_11_matters C hX2_compare_11_X2 hK hP hJ hS mX2_compare_11_4 dX2_compare_77 (fun H locs hP hS => ?_)
      obtain ⟨u17, hu18, h⟩ := lt_some h
      rw [← hu18] at hP
      cases h
      exact rt_v C hP hS dX2_compare_80
set_option maxHeartbeats 4000000 in
set_option maxRecDepth 100000 in
theorem wGX2_compare_11_34 {p : Program} {l : Launch} {e : Env} {s : State} {m : MethodId} {args : Array Value} {below : List Frame} {meth : Method} {c : Code} {D : va_G} {cy : Nat → ClassId} {ad st : Nat → Nat} (C : Cx RX2 cX2_compare 4 none wsX2_compare p s m args meth c) (hK : Kx D [(cy 0, .int), (cy 1, .long), (cy 2, .boolean), (cy 3, .byte), (cy 4, .object "HissHorn$Text")] st s) (hJ : JX ad) {r : Int32} {u' : SX}   (z1 : Int32) (z2 : Int32) (u : SX) (H : Heap) (locs : List Loc) (ls : Array Slot) (h : GX2_compare_11_34 z1 z2 u = some (r, u')) (hP : va_P D vwCl (VX cy ad st u) H) (hS : va_S (Ax (AX ad) s.heap.size) s.heap H locs) (hl : lv_has ls 4 [(0, .ref (ad 11)), (1, .int z1), (2, .int z2)]) : W p l e rmX2_compare_11 s m args below meth c H locs 0 0 (MQ below (Qv D (VX cy ad st) (AX ad) s.heap.size r u') args s 0 0 (Ax (AX ad) s.heap.size)) (F0 m 34 ls []) := by
  unfold GX2_compare_11_34 at h
  refine lv_iconst (v := 0) C.1 C.2.1 dX2_compare_34 (by decide) ?_
  exact wGX2_compare_11_35 C hK hJ _ _ _ _ _ _ _ h hP hS hl
set_option maxHeartbeats 4000000 in
set_option maxRecDepth 100000 in
theorem wX2_compare_11 {p : Program} {l : Launch} {e : Env} {s : State} {m : MethodId} {args : Array Value} {below : List Frame} {meth : Method} {c : Code} {D : va_G} {cy : Nat → ClassId} {ad st : Nat → Nat} (C : Cx RX2 cX2_compare 4 none wsX2_compare p s m args meth c) (hK : Kx D [(cy 0, .int), (cy 1, .long), (cy 2, .boolean), (cy 3, .byte), (cy 4, .object "HissHorn$Text")] st s) (hJ : JX ad) (x1 : Int32) (x2 : Int32) {u : SX} {r : Int32} {u' : SX} {H : Heap} {locs : List Loc} {ls : Array Slot} (h : fX2_compare_11 x1 x2 u = some (r, u')) (hP : va_P D vwCl (VX cy ad st u) H) (hS : va_S (Ax (AX ad) s.heap.size) s.heap H locs) (hl : lv_has ls 4 [(0, .ref (ad 11)), (1, .int x1), (2, .int x2)]) : W p l e rmX2_compare_11 s m args below meth c H locs 0 0 (MQ below (Qv D (VX cy ad st) (AX ad) s.heap.size r u') args s 0 0 (Ax (AX ad) s.heap.size)) (F0 m 0 ls []) := by
  unfold fX2_compare_11 at h
  refine lv_aload_n C.1 C.2.1 dX2_compare_0 rfl (lv_at hl 0 rfl) ?_
  refine gX_11_printFrom C hX2_compare_11_X2 hK hP mX2_compare_11_1 dX2_compare_1 ?_
  refine lv_iload_n C.1 C.2.1 dX2_compare_4 rfl (lv_at hl 1 rfl) ?_
  obtain ⟨hg1, h⟩ := gd_some h
  refine lX_63 C hK hP hg1 dX2_compare_5 ?_
  refine lv_aload_n C.1 C.2.1 dX2_compare_6 rfl (lv_at hl 0 rfl) ?_
  refine gX_11_paperTo C hX2_compare_11_X2 hK hP mX2_compare_11_2 dX2_compare_7 ?_
  refine lv_iload_n C.1 C.2.1 dX2_compare_10 rfl (lv_at hl 2 rfl) ?_
  obtain ⟨hg2, h⟩ := gd_some h
  refine lX_67 C hK hP hg2 dX2_compare_11 ?_
  refine lv_icmp_gt (tgt := 34) C.1 C.2.1 dX2_compare_12 (by decide) (fun c12 => ?_) (fun c12 => ?_)
  · rw [if_pos c12] at h
    exact wGX2_compare_11_34 C hK hJ _ _ _ _ _ _ h hP hS hl
  · rw [if_neg c12] at h
    refine lv_aload_n C.1 C.2.1 dX2_compare_15 rfl (lv_at hl 0 rfl) ?_
    refine gX_11_paperFrom C hX2_compare_11_X2 hK hP mX2_compare_11_5 dX2_compare_16 ?_
    refine lv_iload_n C.1 C.2.1 dX2_compare_19 rfl (lv_at hl 2 rfl) ?_
    obtain ⟨hg19, h⟩ := gd_some h
    refine lX_66 C hK hP hg19 dX2_compare_20 ?_
    refine lv_aload_n C.1 C.2.1 dX2_compare_21 rfl (lv_at hl 0 rfl) ?_
    refine gX_11_printTo C hX2_compare_11_X2 hK hP mX2_compare_11_6 dX2_compare_22 ?_
    refine lv_iload_n C.1 C.2.1 dX2_compare_25 rfl (lv_at hl 1 rfl) ?_
    obtain ⟨hg20, h⟩ := gd_some h
    refine lX_64 C hK hP hg20 dX2_compare_26 ?_
    refine lv_icmp_gt (tgt := 34) C.1 C.2.1 dX2_compare_27 (by decide) (fun c27 => ?_) (fun c27 => ?_)
    · rw [if_pos c27] at h
      exact wGX2_compare_11_34 C hK hJ _ _ _ _ _ _ h hP hS hl
    · rw [if_neg c27] at h
      refine lv_iconst (v := 1) C.1 C.2.1 dX2_compare_30 (by decide) ?_
      refine lv_goto (tgt := 35) C.1 C.2.1 dX2_compare_31 (by decide) ?_
      exact wGX2_compare_11_35 C hK hJ _ _ _ _ _ _ _ h hP hS hl
theorem metX2_compare_11 (l : Launch) (D : va_G) (cy : Nat → ClassId) (ad st : Nat → Nat) (hJ : JX ad) (sz : Nat) (x1 : Int32) (x2 : Int32) {u : SX} {r : Int32} {u' : SX} (h : fX2_compare_11 x1 x2 u = some (r, u')) : Met l yX2_compare wsX2_compare rmX2_compare_11 (va_Pc [.ref (ad 11), .int x1, .int x2] (Px D [(cy 0, .int), (cy 1, .long), (cy 2, .boolean), (cy 3, .byte), (cy 4, .object "HissHorn$Text")] st (VX cy ad st) sz u)) (Qv D (VX cy ad st) (AX ad) sz r u') 0 0 (Ax (AX ad) sz) := by
  refine Met.ofW (cc := cX2_compare) (maxL := 4) (ret := none) (by decide) rfl ?_
  intro p e s m args below meth c s₁ B hml hv
  obtain ⟨rfl, hsz, hP, hK⟩ := hv
  subst hsz
  have C : Cx RX2 cX2_compare 4 none wsX2_compare p s m _ meth c := ⟨B.exec, B.bytes, hml, B.returns, findClass_of_methodNamed B.named, atoms_spec (ws := wsX2_compare) B.pre, B.notSynchronized⟩
  have hl := lv_entry ([.ref (ad 11), .int x1, .int x2]) (n := 4) (Nat.le_of_ble_eq_true rfl)
  rw [lg_entry_eq]
  exact wX2_compare_11 C hK hJ x1 x2 h hP va_S.rf hl

theorem dX2_tell_0 : decode cX2_tell 0 = .ok (.aload_n 0, 1) := by decide +kernel
theorem dX2_tell_1 : decode cX2_tell 1 = .ok (.getfield 44, 3) := by decide +kernel
theorem dX2_tell_4 : decode cX2_tell 4 = .ok (.iload 4, 2) := by decide +kernel
theorem dX2_tell_6 : decode cX2_tell 6 = .ok (.bipush 8, 2) := by decide +kernel
theorem dX2_tell_8 : decode cX2_tell 8 = .ok (.imul, 1) := by decide +kernel
theorem dX2_tell_9 : decode cX2_tell 9 = .ok (.iload_n 1, 1) := by decide +kernel
theorem dX2_tell_10 : decode cX2_tell 10 = .ok (.iadd, 1) := by decide +kernel
theorem dX2_tell_11 : decode cX2_tell 11 = .ok (.dup2, 1) := by decide +kernel
theorem dX2_tell_12 : decode cX2_tell 12 = .ok (.laload, 1) := by decide +kernel
theorem dX2_tell_13 : decode cX2_tell 13 = .ok (.lload_n 2, 1) := by decide +kernel
theorem dX2_tell_14 : decode cX2_tell 14 = .ok (.lor, 1) := by decide +kernel
theorem dX2_tell_15 : decode cX2_tell 15 = .ok (.lastore, 1) := by decide +kernel
theorem dX2_tell_16 : decode cX2_tell 16 = .ok (.aload_n 0, 1) := by decide +kernel
theorem dX2_tell_17 : decode cX2_tell 17 = .ok (.getfield 9, 3) := by decide +kernel
theorem dX2_tell_20 : decode cX2_tell 20 = .ok (.iload 4, 2) := by decide +kernel
theorem dX2_tell_22 : decode cX2_tell 22 = .ok (.iconst 1, 1) := by decide +kernel
theorem dX2_tell_23 : decode cX2_tell 23 = .ok (.bastore, 1) := by decide +kernel
theorem dX2_tell_24 : decode cX2_tell 24 = .ok (.aload_n 0, 1) := by decide +kernel
theorem dX2_tell_25 : decode cX2_tell 25 = .ok (.aload_n 0, 1) := by decide +kernel
theorem dX2_tell_26 : decode cX2_tell 26 = .ok (.getfield 79, 3) := by decide +kernel
theorem dX2_tell_29 : decode cX2_tell 29 = .ok (.iload 4, 2) := by decide +kernel
theorem dX2_tell_31 : decode cX2_tell 31 = .ok (.invokestatic 82, 3) := by decide +kernel
theorem dX2_tell_34 : decode cX2_tell 34 = .ok (.putfield 79, 3) := by decide +kernel
theorem dX2_tell_37 : decode cX2_tell 37 = .ok (.return_, 1) := by decide +kernel
/-- HissHorn$Houses.tell(IJI)V of cell 11 -/
def rmX2_tell_11 : Room := { frames := 1, cells := 0, slots := 0, locals := 14 }
theorem hX2_tell_11_X2 : ∀ w ∈ u_ws RX2 TX2 18, w ∈ wsX2_tell := fun w h => (List.mem_cons_of_mem _ (List.mem_append_right _ h))
theorem mX2_tell_11_1 : Cond.fieldLink RX2 44 "HissHorn$Houses" "told" "[J" ∈ wsX2_tell := (List.mem_cons_of_mem _ (List.mem_append_left _ (List.mem_of_getElem? (i := 0) rfl)))
theorem mX2_tell_11_2 : Cond.fieldLink RX2 9 "HissHorn$Houses" "busy" "[Z" ∈ wsX2_tell := (List.mem_cons_of_mem _ (List.mem_append_left _ (List.mem_of_getElem? (i := 1) rfl)))
theorem mX2_tell_11_3 : Cond.fieldLink RX2 79 "HissHorn$Houses" "settled" "I" ∈ wsX2_tell := (List.mem_cons_of_mem _ (List.mem_append_left _ (List.mem_of_getElem? (i := 2) rfl)))
theorem mX2_tell_11_4 : Cond.methodLink RX2 82 Lib.Math.min.name ∈ wsX2_tell := (List.mem_cons_of_mem _ (List.mem_append_left _ (List.mem_of_getElem? (i := 3) rfl)))
theorem mX2_tell_11_5 : Cond.static Lib.Math.min.name ∈ wsX2_tell := (List.mem_cons_of_mem _ (List.mem_append_left _ (List.mem_of_getElem? (i := 4) rfl)))
theorem mX2_tell_11_6 : Cond.initialized "java/lang/Math" ∈ wsX2_tell := (List.mem_cons_of_mem _ (List.mem_append_left _ (List.mem_of_getElem? (i := 5) rfl)))
theorem mX2_tell_11_7 : Cond.code Lib.Math.min.name Lib.Math.min.code 2 (some .int) ∈ wsX2_tell := (List.mem_cons_of_mem _ (List.mem_append_left _ (List.mem_of_getElem? (i := 6) rfl)))
def fX2_tell_11 (x1 : Int32) (x2 : Int64) (x4 : Int32) (u : SX) : Option (Int32 × SX) := (gd (inb ((x4 * 8) + x1) 968) (gd (inb ((x4 * 8) + x1) 968) (lt (sB u 69 (vp_updL (u.2.2.2 69) ((x4 * 8) + x1).toNatClampNeg ((u.2.2.2 69 ((x4 * 8) + x1).toNatClampNeg) ||| x2))) fun u3 => (gd (inb x4 121) (lt (sA u3 59 (upd (u3.2.1 59) x4.toNatClampNeg (vp_nar .boolean 1))) fun u6 => (lt (sI u6 39 (if x4 < (u6.1 39) then x4 else (u6.1 39))) fun u8 => (some (0, u8))))))))
set_option maxHeartbeats 4000000 in
set_option maxRecDepth 100000 in
theorem wX2_tell_11 {p : Program} {l : Launch} {e : Env} {s : State} {m : MethodId} {args : Array Value} {below : List Frame} {meth : Method} {c : Code} {D : va_G} {cy : Nat → ClassId} {ad st : Nat → Nat} (C : Cx RX2 cX2_tell 5 none wsX2_tell p s m args meth c) (hK : Kx D [(cy 0, .int), (cy 1, .long), (cy 2, .boolean), (cy 3, .byte), (cy 4, .object "HissHorn$Text")] st s) (hJ : JX ad) (x1 : Int32) (x2 : Int64) (x4 : Int32) {u : SX} {r : Int32} {u' : SX} {H : Heap} {locs : List Loc} {ls : Array Slot} (h : fX2_tell_11 x1 x2 x4 u = some (r, u')) (hP : va_P D vwCl (VX cy ad st u) H) (hS : va_S (Ax (AX ad) s.heap.size) s.heap H locs) (hl : lv_has ls 5 [(0, .ref (ad 11)), (1, .int x1), (2, .long x2), (4, .int x4)]) : W p l e rmX2_tell_11 s m args below meth c H locs 0 0 (MQ below (Qv D (VX cy ad st) (AX ad) s.heap.size r u') args s 0 0 (Ax (AX ad) s.heap.size)) (F0 m 0 ls []) := by
  unfold fX2_tell_11 at h
  refine lv_aload_n C.1 C.2.1 dX2_tell_0 rfl (lv_at hl 0 rfl) ?_
  refine gX_11_told C hX2_tell_11_X2 hK hP mX2_tell_11_1 dX2_tell_1 ?_
  refine lv_iload C.1 C.2.1 dX2_tell_4 (lv_at hl 3 rfl) ?_
  refine lv_bipush (v := 8) C.1 C.2.1 dX2_tell_6 (by decide) ?_
  refine lv_imul C.1 C.2.1 dX2_tell_8 ?_
  refine lv_iload_n C.1 C.2.1 dX2_tell_9 rfl (lv_at hl 1 rfl) ?_
  refine lv_iadd C.1 C.2.1 dX2_tell_10 ?_
  refine lv_dup2_11 C.1 C.2.1 dX2_tell_11 rfl rfl ?_
  obtain ⟨hg1, h⟩ := gd_some h
  refine lX_69 C hK hP hg1 dX2_tell_12 ?_
  refine lv_lload_n C.1 C.2.1 dX2_tell_13 rfl (lv_at hl 2 rfl) ?_
  refine lv_lor C.1 C.2.1 dX2_tell_14 ?_
  obtain ⟨hg2, h⟩ := gd_some h
  refine tX_69 C hK hP hJ hS hg2 dX2_tell_15 (fun H locs hP hS => ?_)
  obtain ⟨u3, hu4, h⟩ := lt_some h
  rw [← hu4] at hP
  refine lv_aload_n C.1 C.2.1 dX2_tell_16 rfl (lv_at hl 0 rfl) ?_
  refine gX_11_busy C hX2_tell_11_X2 hK hP mX2_tell_11_2 dX2_tell_17 ?_
  refine lv_iload C.1 C.2.1 dX2_tell_20 (lv_at hl 3 rfl) ?_
  refine lv_iconst (v := 1) C.1 C.2.1 dX2_tell_22 (by decide) ?_
  obtain ⟨hg5, h⟩ := gd_some h
  refine tX_59 C hK hP hJ hS hg5 dX2_tell_23 (fun H locs hP hS => ?_)
  obtain ⟨u6, hu7, h⟩ := lt_some h
  rw [← hu7] at hP
  refine lv_aload_n C.1 C.2.1 dX2_tell_24 rfl (lv_at hl 0 rfl) ?_
  refine lv_aload_n C.1 C.2.1 dX2_tell_25 rfl (lv_at hl 0 rfl) ?_
  refine gX_11_settled C hX2_tell_11_X2 hK hP mX2_tell_11_3 dX2_tell_26 ?_
  refine lv_iload C.1 C.2.1 dX2_tell_29 (lv_at hl 3 rfl) ?_
  refine va_mmin C.1 C.2.1 (C.2.2.1.trans hl.1.symm) C.2.2.2.2.1 (C.2.2.2.2.2.1 _ mX2_tell_11_4) (C.2.2.2.2.2.1 _ mX2_tell_11_5) (C.2.2.2.2.2.1 _ mX2_tell_11_6) (C.2.2.2.2.2.1 _ mX2_tell_11_7) (Nat.le_of_ble_eq_true rfl) (Nat.le_of_ble_eq_true rfl) (Nat.zero_le _) (Nat.zero_le _) dX2_tell_31 ?_
  refine pX_11_settled C hX2_tell_11_X2 hK hP hJ hS mX2_tell_11_3 dX2_tell_34 (fun H locs hP hS => ?_)
  obtain ⟨u8, hu9, h⟩ := lt_some h
  rw [← hu9] at hP
  cases h
  exact rt_v C hP hS dX2_tell_37
theorem metX2_tell_11 (l : Launch) (D : va_G) (cy : Nat → ClassId) (ad st : Nat → Nat) (hJ : JX ad) (sz : Nat) (x1 : Int32) (x2 : Int64) (x4 : Int32) {u : SX} {r : Int32} {u' : SX} (h : fX2_tell_11 x1 x2 x4 u = some (r, u')) : Met l yX2_tell wsX2_tell rmX2_tell_11 (va_Pc [.ref (ad 11), .int x1, .long x2, .int x4] (Px D [(cy 0, .int), (cy 1, .long), (cy 2, .boolean), (cy 3, .byte), (cy 4, .object "HissHorn$Text")] st (VX cy ad st) sz u)) (Qv D (VX cy ad st) (AX ad) sz r u') 0 0 (Ax (AX ad) sz) := by
  refine Met.ofW (cc := cX2_tell) (maxL := 5) (ret := none) (by decide) rfl ?_
  intro p e s m args below meth c s₁ B hml hv
  obtain ⟨rfl, hsz, hP, hK⟩ := hv
  subst hsz
  have C : Cx RX2 cX2_tell 5 none wsX2_tell p s m _ meth c := ⟨B.exec, B.bytes, hml, B.returns, findClass_of_methodNamed B.named, atoms_spec (ws := wsX2_tell) B.pre, B.notSynchronized⟩
  have hl := lv_entry ([.ref (ad 11), .int x1, .long x2, .int x4]) (n := 5) (Nat.le_of_ble_eq_true rfl)
  rw [lg_entry_eq]
  exact wX2_tell_11 C hK hJ x1 x2 x4 h hP va_S.rf hl

theorem dX2_addPrint_45 : decode cX2_addPrint 45 = .ok (.iload 5, 2) := by decide +kernel
theorem dX2_addPrint_47 : decode cX2_addPrint 47 = .ok (.aload_n 0, 1) := by decide +kernel
theorem dX2_addPrint_48 : decode cX2_addPrint 48 = .ok (.getfield 57, 3) := by decide +kernel
theorem dX2_addPrint_51 : decode cX2_addPrint 51 = .ok (.if_icmp .ge 19, 3) := by decide +kernel
theorem dX2_addPrint_54 : decode cX2_addPrint 54 = .ok (.aload_n 0, 1) := by decide +kernel
theorem dX2_addPrint_55 : decode cX2_addPrint 55 = .ok (.aload_n 0, 1) := by decide +kernel
theorem dX2_addPrint_56 : decode cX2_addPrint 56 = .ok (.getfield 54, 3) := by decide +kernel
theorem dX2_addPrint_59 : decode cX2_addPrint 59 = .ok (.iload 5, 2) := by decide +kernel
set_option maxRecDepth 20000 in
theorem ggX2_addPrint_X2_compare : GoodIn wsX2_addPrint wsX2_compare := goodIn_r _ [10, 2, 11, 12, 3, 13, 14, 15, 16, 9, 17, 18, 19, 20, 32, 33, 34, 35, 36, 37, 38, 39, 40, 41, 42, 43, 44, 45, 46, 47, 48, 49] (by decide +kernel) (by decide +kernel)
set_option maxRecDepth 20000 in
theorem gX2_addPrint_X2_compare : GoodIn wsX2_addPrint (wsV RX2 60 RX2 yX2_compare wsX2_compare) := goodIn_app (goodIn_of _ (by decide +kernel)) ggX2_addPrint_X2_compare
theorem dX2_addPrint_61 : decode cX2_addPrint 61 = .ok (.invokevirtual 60, 3) := by decide +kernel
theorem dX2_addPrint_64 : decode cX2_addPrint 64 = .ok (.iinc 5 1, 3) := by decide +kernel
theorem dX2_addPrint_67 : decode cX2_addPrint 67 = .ok (.goto (-22), 3) := by decide +kernel
theorem dX2_addPrint_70 : decode cX2_addPrint 70 = .ok (.aload_n 0, 1) := by decide +kernel
theorem dX2_addPrint_71 : decode cX2_addPrint 71 = .ok (.iload_n 1, 1) := by decide +kernel
theorem dX2_addPrint_72 : decode cX2_addPrint 72 = .ok (.aload_n 0, 1) := by decide +kernel
theorem dX2_addPrint_73 : decode cX2_addPrint 73 = .ok (.getfield 54, 3) := by decide +kernel
set_option maxRecDepth 20000 in
theorem ggX2_addPrint_X2_printBit : GoodIn wsX2_addPrint wsX2_printBit := goodIn_r _ [20] (by decide +kernel) (by decide +kernel)
set_option maxRecDepth 20000 in
theorem gX2_addPrint_X2_printBit : GoodIn wsX2_addPrint (va_wsS RX2 64 yX2_printBit wsX2_printBit) := goodIn_app (goodIn_of _ (by decide +kernel)) ggX2_addPrint_X2_printBit
theorem dX2_addPrint_76 : decode cX2_addPrint 76 = .ok (.invokestatic 64, 3) := by decide +kernel
theorem dX2_addPrint_79 : decode cX2_addPrint 79 = .ok (.iload 4, 2) := by decide +kernel
set_option maxRecDepth 20000 in
theorem ggX2_addPrint_X2_tell : GoodIn wsX2_addPrint wsX2_tell := goodIn_r _ [24, 25, 26, 27, 28, 29, 30, 31, 32, 33, 34, 35, 36, 37, 38, 39, 40, 41, 42, 43, 44, 45, 46, 47, 48, 49] (by decide +kernel) (by decide +kernel)
set_option maxRecDepth 20000 in
theorem gX2_addPrint_X2_tell : GoodIn wsX2_addPrint (wsV RX2 68 RX2 yX2_tell wsX2_tell) := goodIn_app (goodIn_of _ (by decide +kernel)) ggX2_addPrint_X2_tell
theorem dX2_addPrint_81 : decode cX2_addPrint 81 = .ok (.invokevirtual 68, 3) := by decide +kernel
theorem dX2_addPrint_84 : decode cX2_addPrint 84 = .ok (.aload_n 0, 1) := by decide +kernel
theorem dX2_addPrint_85 : decode cX2_addPrint 85 = .ok (.dup, 1) := by decide +kernel
theorem dX2_addPrint_86 : decode cX2_addPrint 86 = .ok (.getfield 54, 3) := by decide +kernel
theorem dX2_addPrint_89 : decode cX2_addPrint 89 = .ok (.iconst 1, 1) := by decide +kernel
theorem dX2_addPrint_90 : decode cX2_addPrint 90 = .ok (.iadd, 1) := by decide +kernel
theorem dX2_addPrint_91 : decode cX2_addPrint 91 = .ok (.putfield 54, 3) := by decide +kernel
theorem dX2_addPrint_94 : decode cX2_addPrint 94 = .ok (.aload_n 0, 1) := by decide +kernel
theorem dX2_addPrint_95 : decode cX2_addPrint 95 = .ok (.getfield 54, 3) := by decide +kernel
theorem dX2_addPrint_98 : decode cX2_addPrint 98 = .ok (.iconst 1, 1) := by decide +kernel
theorem dX2_addPrint_99 : decode cX2_addPrint 99 = .ok (.isub, 1) := by decide +kernel
theorem dX2_addPrint_100 : decode cX2_addPrint 100 = .ok (.ireturn, 1) := by decide +kernel
theorem dX2_addPrint_0 : decode cX2_addPrint 0 = .ok (.aload_n 0, 1) := by decide +kernel
theorem dX2_addPrint_1 : decode cX2_addPrint 1 = .ok (.getfield 54, 3) := by decide +kernel
theorem dX2_addPrint_4 : decode cX2_addPrint 4 = .ok (.bipush 40, 2) := by decide +kernel
theorem dX2_addPrint_6 : decode cX2_addPrint 6 = .ok (.if_icmp .lt 5, 3) := by decide +kernel
theorem dX2_addPrint_11 : decode cX2_addPrint 11 = .ok (.aload_n 0, 1) := by decide +kernel
theorem dX2_addPrint_12 : decode cX2_addPrint 12 = .ok (.getfield 25, 3) := by decide +kernel
theorem dX2_addPrint_15 : decode cX2_addPrint 15 = .ok (.aload_n 0, 1) := by decide +kernel
theorem dX2_addPrint_16 : decode cX2_addPrint 16 = .ok (.getfield 54, 3) := by decide +kernel
theorem dX2_addPrint_19 : decode cX2_addPrint 19 = .ok (.iload_n 2, 1) := by decide +kernel
theorem dX2_addPrint_20 : decode cX2_addPrint 20 = .ok (.iastore, 1) := by decide +kernel
theorem dX2_addPrint_21 : decode cX2_addPrint 21 = .ok (.aload_n 0, 1) := by decide +kernel
theorem dX2_addPrint_22 : decode cX2_addPrint 22 = .ok (.getfield 28, 3) := by decide +kernel
theorem dX2_addPrint_25 : decode cX2_addPrint 25 = .ok (.aload_n 0, 1) := by decide +kernel
theorem dX2_addPrint_26 : decode cX2_addPrint 26 = .ok (.getfield 54, 3) := by decide +kernel
theorem dX2_addPrint_29 : decode cX2_addPrint 29 = .ok (.iload_n 3, 1) := by decide +kernel
theorem dX2_addPrint_30 : decode cX2_addPrint 30 = .ok (.iastore, 1) := by decide +kernel
theorem dX2_addPrint_31 : decode cX2_addPrint 31 = .ok (.aload_n 0, 1) := by decide +kernel
theorem dX2_addPrint_32 : decode cX2_addPrint 32 = .ok (.getfield 31, 3) := by decide +kernel
theorem dX2_addPrint_35 : decode cX2_addPrint 35 = .ok (.aload_n 0, 1) := by decide +kernel
theorem dX2_addPrint_36 : decode cX2_addPrint 36 = .ok (.getfield 54, 3) := by decide +kernel
theorem dX2_addPrint_39 : decode cX2_addPrint 39 = .ok (.iload 4, 2) := by decide +kernel
theorem dX2_addPrint_41 : decode cX2_addPrint 41 = .ok (.iastore, 1) := by decide +kernel
theorem dX2_addPrint_42 : decode cX2_addPrint 42 = .ok (.iconst 0, 1) := by decide +kernel
theorem dX2_addPrint_43 : decode cX2_addPrint 43 = .ok (.istore 5, 2) := by decide +kernel
theorem dX2_addPrint_9 : decode cX2_addPrint 9 = .ok (.iconst (-1), 1) := by decide +kernel
theorem dX2_addPrint_10 : decode cX2_addPrint 10 = .ok (.ireturn, 1) := by decide +kernel
/-- HissHorn$Houses.addPrint(IIII)I of cell 11 -/
def rmX2_addPrint_11 : Room := { frames := 2, cells := 0, slots := 0, locals := 43 }
theorem hX2_addPrint_11_X2 : ∀ w ∈ u_ws RX2 TX2 18, w ∈ wsX2_addPrint := fun w h => (List.mem_cons_of_mem _ (List.mem_append_right _ h))
theorem mX2_addPrint_11_1 : Cond.fieldLink RX2 54 "HissHorn$Houses" "prints" "I" ∈ wsX2_addPrint := (List.mem_cons_of_mem _ (List.mem_append_left _ (List.mem_append_left _ (List.mem_of_getElem? (i := 0) rfl))))
theorem mX2_addPrint_11_2 : Cond.fieldLink RX2 25 "HissHorn$Houses" "printFrom" "[I" ∈ wsX2_addPrint := (List.mem_cons_of_mem _ (List.mem_append_left _ (List.mem_append_left _ (List.mem_of_getElem? (i := 1) rfl))))
theorem mX2_addPrint_11_3 : Cond.fieldLink RX2 28 "HissHorn$Houses" "printTo" "[I" ∈ wsX2_addPrint := (List.mem_cons_of_mem _ (List.mem_append_left _ (List.mem_append_left _ (List.mem_of_getElem? (i := 2) rfl))))
theorem mX2_addPrint_11_4 : Cond.fieldLink RX2 31 "HissHorn$Houses" "printDay" "[I" ∈ wsX2_addPrint := (List.mem_cons_of_mem _ (List.mem_append_left _ (List.mem_append_left _ (List.mem_of_getElem? (i := 3) rfl))))
theorem mX2_addPrint_11_5 : Cond.fieldLink RX2 57 "HissHorn$Houses" "papers" "I" ∈ wsX2_addPrint := (List.mem_cons_of_mem _ (List.mem_append_left _ (List.mem_append_left _ (List.mem_of_getElem? (i := 4) rfl))))
def LX2_addPrint_11_45 (k70 : Int32 → Int32 → SX → Option (Int32 × SX)) : Nat → Int32 → Int32 → Int32 → SX → Option (Int32 × SX)
  | 0, _, _, _, _ => none
  | n + 1, z1, z4, z5, u => (if (u.1 37) ≤ z5 then (k70 z1 z4 u) else ((fX2_compare_11 (u.1 36) z5 u).bind fun q => match q with | (r10, u11) => ((LX2_addPrint_11_45 k70 n) z1 z4 (z5 + 1) u11)))
def GX2_addPrint_11_70 (z1 : Int32) (z4 : Int32) (u : SX) : Option (Int32 × SX) := ((fX2_printBit (u.1 36)).bind fun r13 => ((fX2_tell_11 z1 r13 z4 u).bind fun q => match q with | (r16, u17) => (lt (sI u17 36 ((u17.1 36) + 1)) fun u19 => (some ((u19.1 36) - 1, u19)))))
def fX2_addPrint_11 (x1 : Int32) (x2 : Int32) (x3 : Int32) (x4 : Int32) (u : SX) : Option (Int32 × SX) := (if (u.1 36) < 40 then (gd (inb (u.1 36) 40) (lt (sA u 63 (upd (u.2.1 63) (u.1 36).toNatClampNeg x2)) fun u2 => (gd (inb (u2.1 36) 40) (lt (sA u2 64 (upd (u2.2.1 64) (u2.1 36).toNatClampNeg x3)) fun u5 => (gd (inb (u5.1 36) 40) (lt (sA u5 65 (upd (u5.2.1 65) (u5.1 36).toNatClampNeg x4)) fun u8 => (LX2_addPrint_11_45 GX2_addPrint_11_70 5000 x1 x4 0 u8))))))) else (some ((-1), u)))
set_option maxHeartbeats 4000000 in
set_option maxRecDepth 100000 in
theorem wLX2_addPrint_11_45 {p : Program} {l : Launch} {e : Env} {s : State} {m : MethodId} {args : Array Value} {below : List Frame} {meth : Method} {c : Code} {D : va_G} {cy : Nat → ClassId} {ad st : Nat → Nat} (C : Cx RX2 cX2_addPrint 6 (some .int) wsX2_addPrint p s m args meth c) (hK : Kx D [(cy 0, .int), (cy 1, .long), (cy 2, .boolean), (cy 3, .byte), (cy 4, .object "HissHorn$Text")] st s) (hJ : JX ad) {r : Int32} {u' : SX} {k70 : Int32 → Int32 → SX → Option (Int32 × SX)} (hk70 : ∀ (z1 : Int32) (z4 : Int32) (u : SX) (H : Heap) (locs : List Loc) (ls : Array Slot), k70 z1 z4 u = some (r, u') → va_P D vwCl (VX cy ad st u) H → va_S (Ax (AX ad) s.heap.size) s.heap H locs → lv_has ls 6 [(0, .ref (ad 11)), (1, .int z1), (4, .int z4)] → W p l e rmX2_addPrint_11 s m args below meth c H locs 0 0 (MQ below (Qi D (VX cy ad st) (AX ad) s.heap.size r u') args s 0 0 (Ax (AX ad) s.heap.size)) (F0 m 70 ls [])) : ∀ (n : Nat) (z1 : Int32) (z4 : Int32) (z5 : Int32) (u : SX) (H : Heap) (locs : List Loc) (ls : Array Slot), LX2_addPrint_11_45 k70 n z1 z4 z5 u = some (r, u') → va_P D vwCl (VX cy ad st u) H → va_S (Ax (AX ad) s.heap.size) s.heap H locs → lv_has ls 6 [(0, .ref (ad 11)), (1, .int z1), (4, .int z4), (5, .int z5)] → W p l e rmX2_addPrint_11 s m args below meth c H locs 0 0 (MQ below (Qi D (VX cy ad st) (AX ad) s.heap.size r u') args s 0 0 (Ax (AX ad) s.heap.size)) (F0 m 45 ls []) := by
  intro n
  induction n with
  | zero =>
    intro z1 z4 z5 u H locs ls h
    exact absurd h (by intro q; cases q)
  | succ n ih =>
    intro z1 z4 z5 u H locs ls h hP hS hl
    rw [LX2_addPrint_11_45] at h
    refine lv_iload C.1 C.2.1 dX2_addPrint_45 (lv_at hl 3 rfl) ?_
    refine lv_aload_n C.1 C.2.1 dX2_addPrint_47 rfl (lv_at hl 0 rfl) ?_
    refine gX_11_papers C hX2_addPrint_11_X2 hK hP mX2_addPrint_11_5 dX2_addPrint_48 ?_
    refine lv_icmp_ge (tgt := 70) C.1 C.2.1 dX2_addPrint_51 (by decide) (fun c51 => ?_) (fun c51 => ?_)
    · rw [if_pos c51] at h
      exact hk70 _ _ _ _ _ _ h hP hS (lv_sub hl [0, 1, 2] rfl)
    · rw [if_neg c51] at h
      refine lv_aload_n C.1 C.2.1 dX2_addPrint_54 rfl (lv_at hl 0 rfl) ?_
      refine lv_aload_n C.1 C.2.1 dX2_addPrint_55 rfl (lv_at hl 0 rfl) ?_
      refine gX_11_prints C hX2_addPrint_11_X2 hK hP mX2_addPrint_11_1 dX2_addPrint_56 ?_
      refine lv_iload C.1 C.2.1 dX2_addPrint_59 (lv_at hl 3 rfl) ?_
      obtain ⟨⟨r10, u11⟩, hc12, h⟩ := bd_some h
      try dsimp only at h
      refine cg_v (As := [.int (u.1 36), .int z5]) (rest := []) C hK hP hS (metX2_compare_11 l D cy ad st hJ _ (u.1 36) z5 hc12) (cwV 2 C.2.2.2.2.2.1 gX2_addPrint_X2_compare rfl rfl rfl (by decide +kernel) ⟨(Nat.le_of_ble_eq_true rfl), (Nat.le_of_ble_eq_true rfl)⟩) 11 2 rfl rfl rfl hl.1 rfl (Nat.le_of_ble_eq_true rfl) dX2_addPrint_61 ⟨Nat.zero_le _, Nat.zero_le _⟩ (fun H locs hP hS => ?_)
      refine lv_iinc (v := z5 + 1) (lv' := [(5, .int (z5 + 1)), (0, .ref (ad 11)), (1, .int z1), (4, .int z4)]) C.1 C.2.1 dX2_addPrint_64 hl (k := 3) rfl rfl (by decide) rfl (fun ls hl => ?_)
      replace hl := lv_sub (l' := [(0, .ref (ad 11)), (1, .int z1), (4, .int z4), (5, .int (z5 + 1))]) hl [1, 2, 3, 0] rfl
      refine lv_goto (tgt := 45) C.1 C.2.1 dX2_addPrint_67 (by decide) ?_
      exact ih _ _ _ _ _ _ _ h hP hS hl
set_option maxHeartbeats 4000000 in
set_option maxRecDepth 100000 in
theorem wGX2_addPrint_11_70 {p : Program} {l : Launch} {e : Env} {s : State} {m : MethodId} {args : Array Value} {below : List Frame} {meth : Method} {c : Code} {D : va_G} {cy : Nat → ClassId} {ad st : Nat → Nat} (C : Cx RX2 cX2_addPrint 6 (some .int) wsX2_addPrint p s m args meth c) (hK : Kx D [(cy 0, .int), (cy 1, .long), (cy 2, .boolean), (cy 3, .byte), (cy 4, .object "HissHorn$Text")] st s) (hJ : JX ad) {r : Int32} {u' : SX}   (z1 : Int32) (z4 : Int32) (u : SX) (H : Heap) (locs : List Loc) (ls : Array Slot) (h : GX2_addPrint_11_70 z1 z4 u = some (r, u')) (hP : va_P D vwCl (VX cy ad st u) H) (hS : va_S (Ax (AX ad) s.heap.size) s.heap H locs) (hl : lv_has ls 6 [(0, .ref (ad 11)), (1, .int z1), (4, .int z4)]) : W p l e rmX2_addPrint_11 s m args below meth c H locs 0 0 (MQ below (Qi D (VX cy ad st) (AX ad) s.heap.size r u') args s 0 0 (Ax (AX ad) s.heap.size)) (F0 m 70 ls []) := by
  unfold GX2_addPrint_11_70 at h
  refine lv_aload_n C.1 C.2.1 dX2_addPrint_70 rfl (lv_at hl 0 rfl) ?_
  refine lv_iload_n C.1 C.2.1 dX2_addPrint_71 rfl (lv_at hl 1 rfl) ?_
  refine lv_aload_n C.1 C.2.1 dX2_addPrint_72 rfl (lv_at hl 0 rfl) ?_
  refine gX_11_prints C hX2_addPrint_11_X2 hK hP mX2_addPrint_11_1 dX2_addPrint_73 ?_
  obtain ⟨r13, hc15, h⟩ := bd_some h
  refine cs_l (As := [.int (u.1 36)]) (rest := [.int z1, .ref (ad 11)]) C hK hP hS (metX2_printBit l D cy st _ (u.1 36) hc15) (va_cwS 1 C.2.2.2.2.2.1 gX2_addPrint_X2_printBit rfl rfl rfl (by decide +kernel) ⟨(Nat.le_of_ble_eq_true rfl), (Nat.le_of_ble_eq_true rfl)⟩) rfl hl.1 rfl (Nat.le_of_ble_eq_true rfl) dX2_addPrint_76 ⟨Nat.zero_le _, Nat.zero_le _⟩ (fun H locs hP hS => ?_)
  refine lv_iload C.1 C.2.1 dX2_addPrint_79 (lv_at hl 2 rfl) ?_
  obtain ⟨⟨r16, u17⟩, hc18, h⟩ := bd_some h
  try dsimp only at h
  refine cg_v (As := [.int z1, .long r13, .int z4]) (rest := []) C hK hP hS (metX2_tell_11 l D cy ad st hJ _ z1 r13 z4 hc18) (cwV 3 C.2.2.2.2.2.1 gX2_addPrint_X2_tell rfl rfl rfl (by decide +kernel) ⟨(Nat.le_of_ble_eq_true rfl), (Nat.le_of_ble_eq_true rfl)⟩) 11 2 rfl rfl rfl hl.1 rfl (Nat.le_of_ble_eq_true rfl) dX2_addPrint_81 ⟨Nat.zero_le _, Nat.zero_le _⟩ (fun H locs hP hS => ?_)
  refine lv_aload_n C.1 C.2.1 dX2_addPrint_84 rfl (lv_at hl 0 rfl) ?_
  refine lv_dup C.1 C.2.1 dX2_addPrint_85 rfl ?_
  refine gX_11_prints C hX2_addPrint_11_X2 hK hP mX2_addPrint_11_1 dX2_addPrint_86 ?_
  refine lv_iconst (v := 1) C.1 C.2.1 dX2_addPrint_89 (by decide) ?_
  refine lv_iadd C.1 C.2.1 dX2_addPrint_90 ?_
  refine pX_11_prints C hX2_addPrint_11_X2 hK hP hJ hS mX2_addPrint_11_1 dX2_addPrint_91 (fun H locs hP hS => ?_)
  obtain ⟨u19, hu20, h⟩ := lt_some h
  rw [← hu20] at hP
  refine lv_aload_n C.1 C.2.1 dX2_addPrint_94 rfl (lv_at hl 0 rfl) ?_
  refine gX_11_prints C hX2_addPrint_11_X2 hK hP mX2_addPrint_11_1 dX2_addPrint_95 ?_
  refine lv_iconst (v := 1) C.1 C.2.1 dX2_addPrint_98 (by decide) ?_
  refine lv_isub C.1 C.2.1 dX2_addPrint_99 ?_
  cases h
  exact rt_i C hP hS dX2_addPrint_100
set_option maxHeartbeats 4000000 in
set_option maxRecDepth 100000 in
theorem wX2_addPrint_11 {p : Program} {l : Launch} {e : Env} {s : State} {m : MethodId} {args : Array Value} {below : List Frame} {meth : Method} {c : Code} {D : va_G} {cy : Nat → ClassId} {ad st : Nat → Nat} (C : Cx RX2 cX2_addPrint 6 (some .int) wsX2_addPrint p s m args meth c) (hK : Kx D [(cy 0, .int), (cy 1, .long), (cy 2, .boolean), (cy 3, .byte), (cy 4, .object "HissHorn$Text")] st s) (hJ : JX ad) (x1 : Int32) (x2 : Int32) (x3 : Int32) (x4 : Int32) {u : SX} {r : Int32} {u' : SX} {H : Heap} {locs : List Loc} {ls : Array Slot} (h : fX2_addPrint_11 x1 x2 x3 x4 u = some (r, u')) (hP : va_P D vwCl (VX cy ad st u) H) (hS : va_S (Ax (AX ad) s.heap.size) s.heap H locs) (hl : lv_has ls 6 [(0, .ref (ad 11)), (1, .int x1), (2, .int x2), (3, .int x3), (4, .int x4)]) : W p l e rmX2_addPrint_11 s m args below meth c H locs 0 0 (MQ below (Qi D (VX cy ad st) (AX ad) s.heap.size r u') args s 0 0 (Ax (AX ad) s.heap.size)) (F0 m 0 ls []) := by
  unfold fX2_addPrint_11 at h
  refine lv_aload_n C.1 C.2.1 dX2_addPrint_0 rfl (lv_at hl 0 rfl) ?_
  refine gX_11_prints C hX2_addPrint_11_X2 hK hP mX2_addPrint_11_1 dX2_addPrint_1 ?_
  refine lv_bipush (v := 40) C.1 C.2.1 dX2_addPrint_4 (by decide) ?_
  refine lv_icmp_lt (tgt := 11) C.1 C.2.1 dX2_addPrint_6 (by decide) (fun c6 => ?_) (fun c6 => ?_)
  · rw [if_pos c6] at h
    refine lv_aload_n C.1 C.2.1 dX2_addPrint_11 rfl (lv_at hl 0 rfl) ?_
    refine gX_11_printFrom C hX2_addPrint_11_X2 hK hP mX2_addPrint_11_2 dX2_addPrint_12 ?_
    refine lv_aload_n C.1 C.2.1 dX2_addPrint_15 rfl (lv_at hl 0 rfl) ?_
    refine gX_11_prints C hX2_addPrint_11_X2 hK hP mX2_addPrint_11_1 dX2_addPrint_16 ?_
    refine lv_iload_n C.1 C.2.1 dX2_addPrint_19 rfl (lv_at hl 2 rfl) ?_
    obtain ⟨hg1, h⟩ := gd_some h
    refine tX_63 C hK hP hJ hS hg1 dX2_addPrint_20 (fun H locs hP hS => ?_)
    obtain ⟨u2, hu3, h⟩ := lt_some h
    rw [← hu3] at hP
    refine lv_aload_n C.1 C.2.1 dX2_addPrint_21 rfl (lv_at hl 0 rfl) ?_
    refine gX_11_printTo C hX2_addPrint_11_X2 hK hP mX2_addPrint_11_3 dX2_addPrint_22 ?_
    refine lv_aload_n C.1 C.2.1 dX2_addPrint_25 rfl (lv_at hl 0 rfl) ?_
    refine gX_11_prints C hX2_addPrint_11_X2 hK hP mX2_addPrint_11_1 dX2_addPrint_26 ?_
    refine lv_iload_n C.1 C.2.1 dX2_addPrint_29 rfl (lv_at hl 3 rfl) ?_
    obtain ⟨hg4, h⟩ := gd_some h
    refine tX_64 C hK hP hJ hS hg4 dX2_addPrint_30 (fun H locs hP hS => ?_)
    obtain ⟨u5, hu6, h⟩ := lt_some h
    rw [← hu6] at hP
    refine lv_aload_n C.1 C.2.1 dX2_addPrint_31 rfl (lv_at hl 0 rfl) ?_
    refine gX_11_printDay C hX2_addPrint_11_X2 hK hP mX2_addPrint_11_4 dX2_addPrint_32 ?_
    refine lv_aload_n C.1 C.2.1 dX2_addPrint_35 rfl (lv_at hl 0 rfl) ?_
    refine gX_11_prints C hX2_addPrint_11_X2 hK hP mX2_addPrint_11_1 dX2_addPrint_36 ?_
    refine lv_iload C.1 C.2.1 dX2_addPrint_39 (lv_at hl 4 rfl) ?_
    obtain ⟨hg7, h⟩ := gd_some h
    refine tX_65 C hK hP hJ hS hg7 dX2_addPrint_41 (fun H locs hP hS => ?_)
    obtain ⟨u8, hu9, h⟩ := lt_some h
    rw [← hu9] at hP
    refine lv_iconst (v := 0) C.1 C.2.1 dX2_addPrint_42 (by decide) ?_
    refine lv_istore (lv' := [(5, .int 0), (0, .ref (ad 11)), (1, .int x1), (2, .int x2), (3, .int x3), (4, .int x4)]) C.1 C.2.1 dX2_addPrint_43 hl (by decide) rfl (fun ls hl => ?_)
    replace hl := lv_sub (l' := [(0, .ref (ad 11)), (1, .int x1), (2, .int x2), (3, .int x3), (4, .int x4), (5, .int 0)]) hl [1, 2, 3, 4, 5, 0] rfl
    exact wLX2_addPrint_11_45 C hK hJ (wGX2_addPrint_11_70 C hK hJ ) 5000 _ _ _ _ _ _ _ h hP hS (lv_sub hl [0, 1, 4, 5] rfl)
  · rw [if_neg c6] at h
    refine lv_iconst (v := (-1)) C.1 C.2.1 dX2_addPrint_9 (by decide) ?_
    cases h
    exact rt_i C hP hS dX2_addPrint_10
theorem metX2_addPrint_11 (l : Launch) (D : va_G) (cy : Nat → ClassId) (ad st : Nat → Nat) (hJ : JX ad) (sz : Nat) (x1 : Int32) (x2 : Int32) (x3 : Int32) (x4 : Int32) {u : SX} {r : Int32} {u' : SX} (h : fX2_addPrint_11 x1 x2 x3 x4 u = some (r, u')) : Met l yX2_addPrint wsX2_addPrint rmX2_addPrint_11 (va_Pc [.ref (ad 11), .int x1, .int x2, .int x3, .int x4] (Px D [(cy 0, .int), (cy 1, .long), (cy 2, .boolean), (cy 3, .byte), (cy 4, .object "HissHorn$Text")] st (VX cy ad st) sz u)) (Qi D (VX cy ad st) (AX ad) sz r u') 0 0 (Ax (AX ad) sz) := by
  refine Met.ofW (cc := cX2_addPrint) (maxL := 6) (ret := (some .int)) (by decide) rfl ?_
  intro p e s m args below meth c s₁ B hml hv
  obtain ⟨rfl, hsz, hP, hK⟩ := hv
  subst hsz
  have C : Cx RX2 cX2_addPrint 6 (some .int) wsX2_addPrint p s m _ meth c := ⟨B.exec, B.bytes, hml, B.returns, findClass_of_methodNamed B.named, atoms_spec (ws := wsX2_addPrint) B.pre, B.notSynchronized⟩
  have hl := lv_entry ([.ref (ad 11), .int x1, .int x2, .int x3, .int x4]) (n := 6) (Nat.le_of_ble_eq_true rfl)
  rw [lg_entry_eq]
  exact wX2_addPrint_11 C hK hJ x1 x2 x3 x4 h hP va_S.rf hl

theorem dX2_addPaper_34 : decode cX2_addPaper 34 = .ok (.iload 5, 2) := by decide +kernel
theorem dX2_addPaper_36 : decode cX2_addPaper 36 = .ok (.aload_n 0, 1) := by decide +kernel
theorem dX2_addPaper_37 : decode cX2_addPaper 37 = .ok (.getfield 54, 3) := by decide +kernel
theorem dX2_addPaper_40 : decode cX2_addPaper 40 = .ok (.if_icmp .ge 19, 3) := by decide +kernel
theorem dX2_addPaper_43 : decode cX2_addPaper 43 = .ok (.aload_n 0, 1) := by decide +kernel
theorem dX2_addPaper_44 : decode cX2_addPaper 44 = .ok (.iload 5, 2) := by decide +kernel
theorem dX2_addPaper_46 : decode cX2_addPaper 46 = .ok (.aload_n 0, 1) := by decide +kernel
theorem dX2_addPaper_47 : decode cX2_addPaper 47 = .ok (.getfield 57, 3) := by decide +kernel
set_option maxRecDepth 20000 in
theorem ggX2_addPaper_X2_compare : GoodIn wsX2_addPaper wsX2_compare := goodIn_r _ [9, 10, 3, 2, 11, 12, 13, 14, 15, 8, 16, 17, 18, 19, 31, 32, 33, 34, 35, 36, 37, 38, 39, 40, 41, 42, 43, 44, 45, 46, 47, 48] (by decide +kernel) (by decide +kernel)
set_option maxRecDepth 20000 in
theorem gX2_addPaper_X2_compare : GoodIn wsX2_addPaper (wsV RX2 60 RX2 yX2_compare wsX2_compare) := goodIn_app (goodIn_of _ (by decide +kernel)) ggX2_addPaper_X2_compare
theorem dX2_addPaper_50 : decode cX2_addPaper 50 = .ok (.invokevirtual 60, 3) := by decide +kernel
theorem dX2_addPaper_53 : decode cX2_addPaper 53 = .ok (.iinc 5 1, 3) := by decide +kernel
theorem dX2_addPaper_56 : decode cX2_addPaper 56 = .ok (.goto (-22), 3) := by decide +kernel
theorem dX2_addPaper_59 : decode cX2_addPaper 59 = .ok (.aload_n 0, 1) := by decide +kernel
theorem dX2_addPaper_60 : decode cX2_addPaper 60 = .ok (.iload_n 1, 1) := by decide +kernel
theorem dX2_addPaper_61 : decode cX2_addPaper 61 = .ok (.aload_n 0, 1) := by decide +kernel
theorem dX2_addPaper_62 : decode cX2_addPaper 62 = .ok (.getfield 57, 3) := by decide +kernel
set_option maxRecDepth 20000 in
theorem ggX2_addPaper_X2_paperBit : GoodIn wsX2_addPaper wsX2_paperBit := goodIn_r _ [16] (by decide +kernel) (by decide +kernel)
set_option maxRecDepth 20000 in
theorem gX2_addPaper_X2_paperBit : GoodIn wsX2_addPaper (va_wsS RX2 72 yX2_paperBit wsX2_paperBit) := goodIn_app (goodIn_of _ (by decide +kernel)) ggX2_addPaper_X2_paperBit
theorem dX2_addPaper_65 : decode cX2_addPaper 65 = .ok (.invokestatic 72, 3) := by decide +kernel
theorem dX2_addPaper_68 : decode cX2_addPaper 68 = .ok (.iload 4, 2) := by decide +kernel
set_option maxRecDepth 20000 in
theorem ggX2_addPaper_X2_tell : GoodIn wsX2_addPaper wsX2_tell := goodIn_r _ [23, 24, 25, 26, 27, 28, 29, 30, 31, 32, 33, 34, 35, 36, 37, 38, 39, 40, 41, 42, 43, 44, 45, 46, 47, 48] (by decide +kernel) (by decide +kernel)
set_option maxRecDepth 20000 in
theorem gX2_addPaper_X2_tell : GoodIn wsX2_addPaper (wsV RX2 68 RX2 yX2_tell wsX2_tell) := goodIn_app (goodIn_of _ (by decide +kernel)) ggX2_addPaper_X2_tell
theorem dX2_addPaper_70 : decode cX2_addPaper 70 = .ok (.invokevirtual 68, 3) := by decide +kernel
theorem dX2_addPaper_73 : decode cX2_addPaper 73 = .ok (.aload_n 0, 1) := by decide +kernel
theorem dX2_addPaper_74 : decode cX2_addPaper 74 = .ok (.dup, 1) := by decide +kernel
theorem dX2_addPaper_75 : decode cX2_addPaper 75 = .ok (.getfield 57, 3) := by decide +kernel
theorem dX2_addPaper_78 : decode cX2_addPaper 78 = .ok (.iconst 1, 1) := by decide +kernel
theorem dX2_addPaper_79 : decode cX2_addPaper 79 = .ok (.iadd, 1) := by decide +kernel
theorem dX2_addPaper_80 : decode cX2_addPaper 80 = .ok (.putfield 57, 3) := by decide +kernel
theorem dX2_addPaper_83 : decode cX2_addPaper 83 = .ok (.aload_n 0, 1) := by decide +kernel
theorem dX2_addPaper_84 : decode cX2_addPaper 84 = .ok (.getfield 57, 3) := by decide +kernel
theorem dX2_addPaper_87 : decode cX2_addPaper 87 = .ok (.iconst 1, 1) := by decide +kernel
theorem dX2_addPaper_88 : decode cX2_addPaper 88 = .ok (.isub, 1) := by decide +kernel
theorem dX2_addPaper_89 : decode cX2_addPaper 89 = .ok (.ireturn, 1) := by decide +kernel
theorem dX2_addPaper_0 : decode cX2_addPaper 0 = .ok (.aload_n 0, 1) := by decide +kernel
theorem dX2_addPaper_1 : decode cX2_addPaper 1 = .ok (.getfield 57, 3) := by decide +kernel
theorem dX2_addPaper_4 : decode cX2_addPaper 4 = .ok (.bipush 20, 2) := by decide +kernel
theorem dX2_addPaper_6 : decode cX2_addPaper 6 = .ok (.if_icmp .lt 5, 3) := by decide +kernel
theorem dX2_addPaper_11 : decode cX2_addPaper 11 = .ok (.aload_n 0, 1) := by decide +kernel
theorem dX2_addPaper_12 : decode cX2_addPaper 12 = .ok (.getfield 34, 3) := by decide +kernel
theorem dX2_addPaper_15 : decode cX2_addPaper 15 = .ok (.aload_n 0, 1) := by decide +kernel
theorem dX2_addPaper_16 : decode cX2_addPaper 16 = .ok (.getfield 57, 3) := by decide +kernel
theorem dX2_addPaper_19 : decode cX2_addPaper 19 = .ok (.iload_n 2, 1) := by decide +kernel
theorem dX2_addPaper_20 : decode cX2_addPaper 20 = .ok (.iastore, 1) := by decide +kernel
theorem dX2_addPaper_21 : decode cX2_addPaper 21 = .ok (.aload_n 0, 1) := by decide +kernel
theorem dX2_addPaper_22 : decode cX2_addPaper 22 = .ok (.getfield 37, 3) := by decide +kernel
theorem dX2_addPaper_25 : decode cX2_addPaper 25 = .ok (.aload_n 0, 1) := by decide +kernel
theorem dX2_addPaper_26 : decode cX2_addPaper 26 = .ok (.getfield 57, 3) := by decide +kernel
theorem dX2_addPaper_29 : decode cX2_addPaper 29 = .ok (.iload_n 3, 1) := by decide +kernel
theorem dX2_addPaper_30 : decode cX2_addPaper 30 = .ok (.iastore, 1) := by decide +kernel
theorem dX2_addPaper_31 : decode cX2_addPaper 31 = .ok (.iconst 0, 1) := by decide +kernel
theorem dX2_addPaper_32 : decode cX2_addPaper 32 = .ok (.istore 5, 2) := by decide +kernel
theorem dX2_addPaper_9 : decode cX2_addPaper 9 = .ok (.iconst (-1), 1) := by decide +kernel
theorem dX2_addPaper_10 : decode cX2_addPaper 10 = .ok (.ireturn, 1) := by decide +kernel
/-- HissHorn$Houses.addPaper(IIII)I of cell 11 -/
def rmX2_addPaper_11 : Room := { frames := 2, cells := 0, slots := 0, locals := 43 }
theorem hX2_addPaper_11_X2 : ∀ w ∈ u_ws RX2 TX2 18, w ∈ wsX2_addPaper := fun w h => (List.mem_cons_of_mem _ (List.mem_append_right _ h))
theorem mX2_addPaper_11_1 : Cond.fieldLink RX2 57 "HissHorn$Houses" "papers" "I" ∈ wsX2_addPaper := (List.mem_cons_of_mem _ (List.mem_append_left _ (List.mem_append_left _ (List.mem_of_getElem? (i := 0) rfl))))
theorem mX2_addPaper_11_2 : Cond.fieldLink RX2 34 "HissHorn$Houses" "paperFrom" "[I" ∈ wsX2_addPaper := (List.mem_cons_of_mem _ (List.mem_append_left _ (List.mem_append_left _ (List.mem_of_getElem? (i := 1) rfl))))
theorem mX2_addPaper_11_3 : Cond.fieldLink RX2 37 "HissHorn$Houses" "paperTo" "[I" ∈ wsX2_addPaper := (List.mem_cons_of_mem _ (List.mem_append_left _ (List.mem_append_left _ (List.mem_of_getElem? (i := 2) rfl))))
theorem mX2_addPaper_11_4 : Cond.fieldLink RX2 54 "HissHorn$Houses" "prints" "I" ∈ wsX2_addPaper := (List.mem_cons_of_mem _ (List.mem_append_left _ (List.mem_append_left _ (List.mem_of_getElem? (i := 3) rfl))))
def LX2_addPaper_11_34 (k59 : Int32 → Int32 → SX → Option (Int32 × SX)) : Nat → Int32 → Int32 → Int32 → SX → Option (Int32 × SX)
  | 0, _, _, _, _ => none
  | n + 1, z1, z4, z5, u => (if (u.1 36) ≤ z5 then (k59 z1 z4 u) else ((fX2_compare_11 z5 (u.1 37) u).bind fun q => match q with | (r7, u8) => ((LX2_addPaper_11_34 k59 n) z1 z4 (z5 + 1) u8)))
def GX2_addPaper_11_59 (z1 : Int32) (z4 : Int32) (u : SX) : Option (Int32 × SX) := ((fX2_paperBit (u.1 37)).bind fun r10 => ((fX2_tell_11 z1 r10 z4 u).bind fun q => match q with | (r13, u14) => (lt (sI u14 37 ((u14.1 37) + 1)) fun u16 => (some ((u16.1 37) - 1, u16)))))
def fX2_addPaper_11 (x1 : Int32) (x2 : Int32) (x3 : Int32) (x4 : Int32) (u : SX) : Option (Int32 × SX) := (if (u.1 37) < 20 then (gd (inb (u.1 37) 20) (lt (sA u 66 (upd (u.2.1 66) (u.1 37).toNatClampNeg x2)) fun u2 => (gd (inb (u2.1 37) 20) (lt (sA u2 67 (upd (u2.2.1 67) (u2.1 37).toNatClampNeg x3)) fun u5 => (LX2_addPaper_11_34 GX2_addPaper_11_59 5000 x1 x4 0 u5))))) else (some ((-1), u)))
set_option maxHeartbeats 4000000 in
set_option maxRecDepth 100000 in
theorem wLX2_addPaper_11_34 {p : Program} {l : Launch} {e : Env} {s : State} {m : MethodId} {args : Array Value} {below : List Frame} {meth : Method} {c : Code} {D : va_G} {cy : Nat → ClassId} {ad st : Nat → Nat} (C : Cx RX2 cX2_addPaper 6 (some .int) wsX2_addPaper p s m args meth c) (hK : Kx D [(cy 0, .int), (cy 1, .long), (cy 2, .boolean), (cy 3, .byte), (cy 4, .object "HissHorn$Text")] st s) (hJ : JX ad) {r : Int32} {u' : SX} {k59 : Int32 → Int32 → SX → Option (Int32 × SX)} (hk59 : ∀ (z1 : Int32) (z4 : Int32) (u : SX) (H : Heap) (locs : List Loc) (ls : Array Slot), k59 z1 z4 u = some (r, u') → va_P D vwCl (VX cy ad st u) H → va_S (Ax (AX ad) s.heap.size) s.heap H locs → lv_has ls 6 [(0, .ref (ad 11)), (1, .int z1), (4, .int z4)] → W p l e rmX2_addPaper_11 s m args below meth c H locs 0 0 (MQ below (Qi D (VX cy ad st) (AX ad) s.heap.size r u') args s 0 0 (Ax (AX ad) s.heap.size)) (F0 m 59 ls [])) : ∀ (n : Nat) (z1 : Int32) (z4 : Int32) (z5 : Int32) (u : SX) (H : Heap) (locs : List Loc) (ls : Array Slot), LX2_addPaper_11_34 k59 n z1 z4 z5 u = some (r, u') → va_P D vwCl (VX cy ad st u) H → va_S (Ax (AX ad) s.heap.size) s.heap H locs → lv_has ls 6 [(0, .ref (ad 11)), (1, .int z1), (4, .int z4), (5, .int z5)] → W p l e rmX2_addPaper_11 s m args below meth c H locs 0 0 (MQ below (Qi D (VX cy ad st) (AX ad) s.heap.size r u') args s 0 0 (Ax (AX ad) s.heap.size)) (F0 m 34 ls []) := by
  intro n
  induction n with
  | zero =>
    intro z1 z4 z5 u H locs ls h
    exact absurd h (by intro q; cases q)
  | succ n ih =>
    intro z1 z4 z5 u H locs ls h hP hS hl
    rw [LX2_addPaper_11_34] at h
    refine lv_iload C.1 C.2.1 dX2_addPaper_34 (lv_at hl 3 rfl) ?_
    refine lv_aload_n C.1 C.2.1 dX2_addPaper_36 rfl (lv_at hl 0 rfl) ?_
    refine gX_11_prints C hX2_addPaper_11_X2 hK hP mX2_addPaper_11_4 dX2_addPaper_37 ?_
    refine lv_icmp_ge (tgt := 59) C.1 C.2.1 dX2_addPaper_40 (by decide) (fun c40 => ?_) (fun c40 => ?_)
    · rw [if_pos c40] at h
      exact hk59 _ _ _ _ _ _ h hP hS (lv_sub hl [0, 1, 2] rfl)
    · rw [if_neg c40] at h
      refine lv_aload_n C.1 C.2.1 dX2_addPaper_43 rfl (lv_at hl 0 rfl) ?_
      refine lv_iload C.1 C.2.1 dX2_addPaper_44 (lv_at hl 3 rfl) ?_
      refine lv_aload_n C.1 C.2.1 dX2_addPaper_46 rfl (lv_at hl 0 rfl) ?_
      refine gX_11_papers C hX2_addPaper_11_X2 hK hP mX2_addPaper_11_1 dX2_addPaper_47 ?_
      obtain ⟨⟨r7, u8⟩, hc9, h⟩ := bd_some h
      try dsimp only at h
      refine cg_v (As := [.int z5, .int (u.1 37)]) (rest := []) C hK hP hS (metX2_compare_11 l D cy ad st hJ _ z5 (u.1 37) hc9) (cwV 2 C.2.2.2.2.2.1 gX2_addPaper_X2_compare rfl rfl rfl (by decide +kernel) ⟨(Nat.le_of_ble_eq_true rfl), (Nat.le_of_ble_eq_true rfl)⟩) 11 2 rfl rfl rfl hl.1 rfl (Nat.le_of_ble_eq_true rfl) dX2_addPaper_50 ⟨Nat.zero_le _, Nat.zero_le _⟩ (fun H locs hP hS => ?_)
      refine lv_iinc (v := z5 + 1) (lv' := [(5, .int (z5 + 1)), (0, .ref (ad 11)), (1, .int z1), (4, .int z4)]) C.1 C.2.1 dX2_addPaper_53 hl (k := 3) rfl rfl (by decide) rfl (fun ls hl => ?_)
      replace hl := lv_sub (l' := [(0, .ref (ad 11)), (1, .int z1), (4, .int z4), (5, .int (z5 + 1))]) hl [1, 2, 3, 0] rfl
      refine lv_goto (tgt := 34) C.1 C.2.1 dX2_addPaper_56 (by decide) ?_
      exact ih _ _ _ _ _ _ _ h hP hS hl
set_option maxHeartbeats 4000000 in
set_option maxRecDepth 100000 in
theorem wGX2_addPaper_11_59 {p : Program} {l : Launch} {e : Env} {s : State} {m : MethodId} {args : Array Value} {below : List Frame} {meth : Method} {c : Code} {D : va_G} {cy : Nat → ClassId} {ad st : Nat → Nat} (C : Cx RX2 cX2_addPaper 6 (some .int) wsX2_addPaper p s m args meth c) (hK : Kx D [(cy 0, .int), (cy 1, .long), (cy 2, .boolean), (cy 3, .byte), (cy 4, .object "HissHorn$Text")] st s) (hJ : JX ad) {r : Int32} {u' : SX}   (z1 : Int32) (z4 : Int32) (u : SX) (H : Heap) (locs : List Loc) (ls : Array Slot) (h : GX2_addPaper_11_59 z1 z4 u = some (r, u')) (hP : va_P D vwCl (VX cy ad st u) H) (hS : va_S (Ax (AX ad) s.heap.size) s.heap H locs) (hl : lv_has ls 6 [(0, .ref (ad 11)), (1, .int z1), (4, .int z4)]) : W p l e rmX2_addPaper_11 s m args below meth c H locs 0 0 (MQ below (Qi D (VX cy ad st) (AX ad) s.heap.size r u') args s 0 0 (Ax (AX ad) s.heap.size)) (F0 m 59 ls []) := by
  unfold GX2_addPaper_11_59 at h
  refine lv_aload_n C.1 C.2.1 dX2_addPaper_59 rfl (lv_at hl 0 rfl) ?_
  refine lv_iload_n C.1 C.2.1 dX2_addPaper_60 rfl (lv_at hl 1 rfl) ?_
  refine lv_aload_n C.1 C.2.1 dX2_addPaper_61 rfl (lv_at hl 0 rfl) ?_
  refine gX_11_papers C hX2_addPaper_11_X2 hK hP mX2_addPaper_11_1 dX2_addPaper_62 ?_
  obtain ⟨r10, hc12, h⟩ := bd_some h
  refine cs_l (As := [.int (u.1 37)]) (rest := [.int z1, .ref (ad 11)]) C hK hP hS (metX2_paperBit l D cy st _ (u.1 37) hc12) (va_cwS 1 C.2.2.2.2.2.1 gX2_addPaper_X2_paperBit rfl rfl rfl (by decide +kernel) ⟨(Nat.le_of_ble_eq_true rfl), (Nat.le_of_ble_eq_true rfl)⟩) rfl hl.1 rfl (Nat.le_of_ble_eq_true rfl) dX2_addPaper_65 ⟨Nat.zero_le _, Nat.zero_le _⟩ (fun H locs hP hS => ?_)
  refine lv_iload C.1 C.2.1 dX2_addPaper_68 (lv_at hl 2 rfl) ?_
  obtain ⟨⟨r13, u14⟩, hc15, h⟩ := bd_some h
  try dsimp only at h
  refine cg_v (As := [.int z1, .long r10, .int z4]) (rest := []) C hK hP hS (metX2_tell_11 l D cy ad st hJ _ z1 r10 z4 hc15) (cwV 3 C.2.2.2.2.2.1 gX2_addPaper_X2_tell rfl rfl rfl (by decide +kernel) ⟨(Nat.le_of_ble_eq_true rfl), (Nat.le_of_ble_eq_true rfl)⟩) 11 2 rfl rfl rfl hl.1 rfl (Nat.le_of_ble_eq_true rfl) dX2_addPaper_70 ⟨Nat.zero_le _, Nat.zero_le _⟩ (fun H locs hP hS => ?_)
  refine lv_aload_n C.1 C.2.1 dX2_addPaper_73 rfl (lv_at hl 0 rfl) ?_
  refine lv_dup C.1 C.2.1 dX2_addPaper_74 rfl ?_
  refine gX_11_papers C hX2_addPaper_11_X2 hK hP mX2_addPaper_11_1 dX2_addPaper_75 ?_
  refine lv_iconst (v := 1) C.1 C.2.1 dX2_addPaper_78 (by decide) ?_
  refine lv_iadd C.1 C.2.1 dX2_addPaper_79 ?_
  refine pX_11_papers C hX2_addPaper_11_X2 hK hP hJ hS mX2_addPaper_11_1 dX2_addPaper_80 (fun H locs hP hS => ?_)
  obtain ⟨u16, hu17, h⟩ := lt_some h
  rw [← hu17] at hP
  refine lv_aload_n C.1 C.2.1 dX2_addPaper_83 rfl (lv_at hl 0 rfl) ?_
  refine gX_11_papers C hX2_addPaper_11_X2 hK hP mX2_addPaper_11_1 dX2_addPaper_84 ?_
  refine lv_iconst (v := 1) C.1 C.2.1 dX2_addPaper_87 (by decide) ?_
  refine lv_isub C.1 C.2.1 dX2_addPaper_88 ?_
  cases h
  exact rt_i C hP hS dX2_addPaper_89
set_option maxHeartbeats 4000000 in
set_option maxRecDepth 100000 in
theorem wX2_addPaper_11 {p : Program} {l : Launch} {e : Env} {s : State} {m : MethodId} {args : Array Value} {below : List Frame} {meth : Method} {c : Code} {D : va_G} {cy : Nat → ClassId} {ad st : Nat → Nat} (C : Cx RX2 cX2_addPaper 6 (some .int) wsX2_addPaper p s m args meth c) (hK : Kx D [(cy 0, .int), (cy 1, .long), (cy 2, .boolean), (cy 3, .byte), (cy 4, .object "HissHorn$Text")] st s) (hJ : JX ad) (x1 : Int32) (x2 : Int32) (x3 : Int32) (x4 : Int32) {u : SX} {r : Int32} {u' : SX} {H : Heap} {locs : List Loc} {ls : Array Slot} (h : fX2_addPaper_11 x1 x2 x3 x4 u = some (r, u')) (hP : va_P D vwCl (VX cy ad st u) H) (hS : va_S (Ax (AX ad) s.heap.size) s.heap H locs) (hl : lv_has ls 6 [(0, .ref (ad 11)), (1, .int x1), (2, .int x2), (3, .int x3), (4, .int x4)]) : W p l e rmX2_addPaper_11 s m args below meth c H locs 0 0 (MQ below (Qi D (VX cy ad st) (AX ad) s.heap.size r u') args s 0 0 (Ax (AX ad) s.heap.size)) (F0 m 0 ls []) := by
  unfold fX2_addPaper_11 at h
  refine lv_aload_n C.1 C.2.1 dX2_addPaper_0 rfl (lv_at hl 0 rfl) ?_
  refine gX_11_papers C hX2_addPaper_11_X2 hK hP mX2_addPaper_11_1 dX2_addPaper_1 ?_
  refine lv_bipush (v := 20) C.1 C.2.1 dX2_addPaper_4 (by decide) ?_
  refine lv_icmp_lt (tgt := 11) C.1 C.2.1 dX2_addPaper_6 (by decide) (fun c6 => ?_) (fun c6 => ?_)
  · rw [if_pos c6] at h
    refine lv_aload_n C.1 C.2.1 dX2_addPaper_11 rfl (lv_at hl 0 rfl) ?_
    refine gX_11_paperFrom C hX2_addPaper_11_X2 hK hP mX2_addPaper_11_2 dX2_addPaper_12 ?_
    refine lv_aload_n C.1 C.2.1 dX2_addPaper_15 rfl (lv_at hl 0 rfl) ?_
    refine gX_11_papers C hX2_addPaper_11_X2 hK hP mX2_addPaper_11_1 dX2_addPaper_16 ?_
    refine lv_iload_n C.1 C.2.1 dX2_addPaper_19 rfl (lv_at hl 2 rfl) ?_
    obtain ⟨hg1, h⟩ := gd_some h
    refine tX_66 C hK hP hJ hS hg1 dX2_addPaper_20 (fun H locs hP hS => ?_)
    obtain ⟨u2, hu3, h⟩ := lt_some h
    rw [← hu3] at hP
    refine lv_aload_n C.1 C.2.1 dX2_addPaper_21 rfl (lv_at hl 0 rfl) ?_
    refine gX_11_paperTo C hX2_addPaper_11_X2 hK hP mX2_addPaper_11_3 dX2_addPaper_22 ?_
    refine lv_aload_n C.1 C.2.1 dX2_addPaper_25 rfl (lv_at hl 0 rfl) ?_
    refine gX_11_papers C hX2_addPaper_11_X2 hK hP mX2_addPaper_11_1 dX2_addPaper_26 ?_
    refine lv_iload_n C.1 C.2.1 dX2_addPaper_29 rfl (lv_at hl 3 rfl) ?_
    obtain ⟨hg4, h⟩ := gd_some h
    refine tX_67 C hK hP hJ hS hg4 dX2_addPaper_30 (fun H locs hP hS => ?_)
    obtain ⟨u5, hu6, h⟩ := lt_some h
    rw [← hu6] at hP
    refine lv_iconst (v := 0) C.1 C.2.1 dX2_addPaper_31 (by decide) ?_
    refine lv_istore (lv' := [(5, .int 0), (0, .ref (ad 11)), (1, .int x1), (2, .int x2), (3, .int x3), (4, .int x4)]) C.1 C.2.1 dX2_addPaper_32 hl (by decide) rfl (fun ls hl => ?_)
    replace hl := lv_sub (l' := [(0, .ref (ad 11)), (1, .int x1), (2, .int x2), (3, .int x3), (4, .int x4), (5, .int 0)]) hl [1, 2, 3, 4, 5, 0] rfl
    exact wLX2_addPaper_11_34 C hK hJ (wGX2_addPaper_11_59 C hK hJ ) 5000 _ _ _ _ _ _ _ h hP hS (lv_sub hl [0, 1, 4, 5] rfl)
  · rw [if_neg c6] at h
    refine lv_iconst (v := (-1)) C.1 C.2.1 dX2_addPaper_9 (by decide) ?_
    cases h
    exact rt_i C hP hS dX2_addPaper_10
theorem metX2_addPaper_11 (l : Launch) (D : va_G) (cy : Nat → ClassId) (ad st : Nat → Nat) (hJ : JX ad) (sz : Nat) (x1 : Int32) (x2 : Int32) (x3 : Int32) (x4 : Int32) {u : SX} {r : Int32} {u' : SX} (h : fX2_addPaper_11 x1 x2 x3 x4 u = some (r, u')) : Met l yX2_addPaper wsX2_addPaper rmX2_addPaper_11 (va_Pc [.ref (ad 11), .int x1, .int x2, .int x3, .int x4] (Px D [(cy 0, .int), (cy 1, .long), (cy 2, .boolean), (cy 3, .byte), (cy 4, .object "HissHorn$Text")] st (VX cy ad st) sz u)) (Qi D (VX cy ad st) (AX ad) sz r u') 0 0 (Ax (AX ad) sz) := by
  refine Met.ofW (cc := cX2_addPaper) (maxL := 6) (ret := (some .int)) (by decide) rfl ?_
  intro p e s m args below meth c s₁ B hml hv
  obtain ⟨rfl, hsz, hP, hK⟩ := hv
  subst hsz
  have C : Cx RX2 cX2_addPaper 6 (some .int) wsX2_addPaper p s m _ meth c := ⟨B.exec, B.bytes, hml, B.returns, findClass_of_methodNamed B.named, atoms_spec (ws := wsX2_addPaper) B.pre, B.notSynchronized⟩
  have hl := lv_entry ([.ref (ad 11), .int x1, .int x2, .int x3, .int x4]) (n := 6) (Nat.le_of_ble_eq_true rfl)
  rw [lg_entry_eq]
  exact wX2_addPaper_11 C hK hJ x1 x2 x3 x4 h hP va_S.rf hl

theorem dX11_print_0 : decode cX11_print 0 = .ok (.aload_n 0, 1) := by decide +kernel
theorem dX11_print_1 : decode cX11_print 1 = .ok (.getfield 90, 3) := by decide +kernel
theorem dX11_print_4 : decode cX11_print 4 = .ok (.iload_n 1, 1) := by decide +kernel
set_option maxRecDepth 20000 in
theorem ggX11_print_X2_has : GoodIn wsX11_print wsX2_has := goodIn_r _ [9, 10, 62, 63, 64, 65, 66, 67, 68, 69, 70, 71, 72, 73, 74, 75, 76, 77, 78, 79] (by decide +kernel) (by decide +kernel)
set_option maxRecDepth 20000 in
theorem gX11_print_X2_has : GoodIn wsX11_print (wsV RX11 323 RX2 yX2_has wsX2_has) := goodIn_app (goodIn_of _ (by decide +kernel)) ggX11_print_X2_has
theorem dX11_print_5 : decode cX11_print 5 = .ok (.invokevirtual 323, 3) := by decide +kernel
theorem dX11_print_8 : decode cX11_print 8 = .ok (.ifCond .eq 24, 3) := by decide +kernel
theorem dX11_print_32 : decode cX11_print 32 = .ok (.iconst (-1), 1) := by decide +kernel
theorem dX11_print_33 : decode cX11_print 33 = .ok (.ireturn, 1) := by decide +kernel
theorem dX11_print_11 : decode cX11_print 11 = .ok (.iload_n 3, 1) := by decide +kernel
theorem dX11_print_12 : decode cX11_print 12 = .ok (.sipush (-400), 3) := by decide +kernel
theorem dX11_print_15 : decode cX11_print 15 = .ok (.if_icmp .lt 17, 3) := by decide +kernel
theorem dX11_print_18 : decode cX11_print 18 = .ok (.iload 4, 2) := by decide +kernel
theorem dX11_print_20 : decode cX11_print 20 = .ok (.sipush 400, 3) := by decide +kernel
theorem dX11_print_23 : decode cX11_print 23 = .ok (.if_icmp .gt 9, 3) := by decide +kernel
theorem dX11_print_26 : decode cX11_print 26 = .ok (.iload 4, 2) := by decide +kernel
theorem dX11_print_28 : decode cX11_print 28 = .ok (.iload_n 3, 1) := by decide +kernel
theorem dX11_print_29 : decode cX11_print 29 = .ok (.if_icmp .ge 5, 3) := by decide +kernel
theorem dX11_print_34 : decode cX11_print 34 = .ok (.iload_n 2, 1) := by decide +kernel
theorem dX11_print_35 : decode cX11_print 35 = .ok (.ifCond .eq 35, 3) := by decide +kernel
theorem dX11_print_70 : decode cX11_print 70 = .ok (.aload_n 0, 1) := by decide +kernel
theorem dX11_print_71 : decode cX11_print 71 = .ok (.getfield 90, 3) := by decide +kernel
theorem dX11_print_74 : decode cX11_print 74 = .ok (.getfield 330, 3) := by decide +kernel
theorem dX11_print_77 : decode cX11_print 77 = .ok (.bipush 40, 2) := by decide +kernel
theorem dX11_print_79 : decode cX11_print 79 = .ok (.if_icmp .lt 7, 3) := by decide +kernel
theorem dX11_print_86 : decode cX11_print 86 = .ok (.aload_n 0, 1) := by decide +kernel
theorem dX11_print_87 : decode cX11_print 87 = .ok (.getfield 90, 3) := by decide +kernel
theorem dX11_print_90 : decode cX11_print 90 = .ok (.iload_n 1, 1) := by decide +kernel
theorem dX11_print_91 : decode cX11_print 91 = .ok (.iload_n 3, 1) := by decide +kernel
theorem dX11_print_92 : decode cX11_print 92 = .ok (.iload 4, 2) := by decide +kernel
theorem dX11_print_94 : decode cX11_print 94 = .ok (.aload_n 0, 1) := by decide +kernel
theorem dX11_print_95 : decode cX11_print 95 = .ok (.getfield 103, 3) := by decide +kernel
set_option maxRecDepth 20000 in
theorem ggX11_print_X2_addPrint : GoodIn wsX11_print wsX2_addPrint := goodIn_r _ [47, 18, 23, 24, 48, 15, 19, 20, 21, 8, 22, 17, 16, 25, 26, 27, 28, 29, 30, 31, 32, 33, 34, 35, 36, 37, 38, 39, 40, 41, 42, 43, 62, 63, 64, 65, 66, 67, 68, 69, 70, 71, 72, 73, 74, 75, 76, 77, 78, 79] (by decide +kernel) (by decide +kernel)
set_option maxRecDepth 20000 in
theorem gX11_print_X2_addPrint : GoodIn wsX11_print (wsV RX11 333 RX2 yX2_addPrint wsX2_addPrint) := goodIn_app (goodIn_of _ (by decide +kernel)) ggX11_print_X2_addPrint
theorem dX11_print_98 : decode cX11_print 98 = .ok (.invokevirtual 333, 3) := by decide +kernel
theorem dX11_print_101 : decode cX11_print 101 = .ok (.ireturn, 1) := by decide +kernel
theorem dX11_print_82 : decode cX11_print 82 = .ok (.iconst (-1), 1) := by decide +kernel
theorem dX11_print_83 : decode cX11_print 83 = .ok (.goto 18, 3) := by decide +kernel
theorem dX11_print_38 : decode cX11_print 38 = .ok (.aload_n 0, 1) := by decide +kernel
theorem dX11_print_39 : decode cX11_print 39 = .ok (.getfield 90, 3) := by decide +kernel
theorem dX11_print_42 : decode cX11_print 42 = .ok (.getfield 324, 3) := by decide +kernel
theorem dX11_print_45 : decode cX11_print 45 = .ok (.bipush 20, 2) := by decide +kernel
theorem dX11_print_47 : decode cX11_print 47 = .ok (.if_icmp .lt 7, 3) := by decide +kernel
theorem dX11_print_54 : decode cX11_print 54 = .ok (.aload_n 0, 1) := by decide +kernel
theorem dX11_print_55 : decode cX11_print 55 = .ok (.getfield 90, 3) := by decide +kernel
theorem dX11_print_58 : decode cX11_print 58 = .ok (.iload_n 1, 1) := by decide +kernel
theorem dX11_print_59 : decode cX11_print 59 = .ok (.iload_n 3, 1) := by decide +kernel
theorem dX11_print_60 : decode cX11_print 60 = .ok (.iload 4, 2) := by decide +kernel
theorem dX11_print_62 : decode cX11_print 62 = .ok (.aload_n 0, 1) := by decide +kernel
theorem dX11_print_63 : decode cX11_print 63 = .ok (.getfield 103, 3) := by decide +kernel
set_option maxRecDepth 20000 in
theorem ggX11_print_X2_addPaper : GoodIn wsX11_print wsX2_addPaper := goodIn_r _ [14, 15, 16, 17, 18, 19, 20, 21, 8, 22, 23, 24, 25, 26, 27, 28, 29, 30, 31, 32, 33, 34, 35, 36, 37, 38, 39, 40, 41, 42, 43, 62, 63, 64, 65, 66, 67, 68, 69, 70, 71, 72, 73, 74, 75, 76, 77, 78, 79] (by decide +kernel) (by decide +kernel)
set_option maxRecDepth 20000 in
theorem gX11_print_X2_addPaper : GoodIn wsX11_print (wsV RX11 327 RX2 yX2_addPaper wsX2_addPaper) := goodIn_app (goodIn_of _ (by decide +kernel)) ggX11_print_X2_addPaper
theorem dX11_print_66 : decode cX11_print 66 = .ok (.invokevirtual 327, 3) := by decide +kernel
theorem dX11_print_69 : decode cX11_print 69 = .ok (.ireturn, 1) := by decide +kernel
theorem dX11_print_50 : decode cX11_print 50 = .ok (.iconst (-1), 1) := by decide +kernel
theorem dX11_print_51 : decode cX11_print 51 = .ok (.goto 18, 3) := by decide +kernel
/-- HissHorn.print(IZII)I of cell 0 -/
def rmX11_print_0 : Room := { frames := 3, cells := 0, slots := 0, locals := 68 }
theorem hX11_print_0_X11 : ∀ w ∈ u_ws RX11 TX11 13, w ∈ wsX11_print := fun w h => (List.mem_cons_of_mem _ (List.mem_append_left _ (List.mem_append_right _ h)))
theorem mX11_print_0_1 : Cond.fieldLink RX11 90 "HissHorn" "houses" "LHissHorn$Houses;" ∈ wsX11_print := (List.mem_cons_of_mem _ (List.mem_append_left _ (List.mem_append_left _ (List.mem_append_left _ (List.mem_of_getElem? (i := 0) rfl)))))
theorem hX11_print_0_X2 : ∀ w ∈ u_ws RX2 TX2 18, w ∈ wsX11_print := fun w h => (List.mem_cons_of_mem _ (List.mem_append_right _ h))
theorem mX11_print_0_3 : Cond.fieldLink RX11 330 "HissHorn$Houses" "prints" "I" ∈ wsX11_print := (List.mem_cons_of_mem _ (List.mem_append_left _ (List.mem_append_left _ (List.mem_append_left _ (List.mem_of_getElem? (i := 3) rfl)))))
theorem mX11_print_0_4 : Cond.fieldLink RX11 103 "HissHorn" "now" "I" ∈ wsX11_print := (List.mem_cons_of_mem _ (List.mem_append_left _ (List.mem_append_left _ (List.mem_append_left _ (List.mem_of_getElem? (i := 2) rfl)))))
theorem mX11_print_0_5 : Cond.fieldLink RX11 324 "HissHorn$Houses" "papers" "I" ∈ wsX11_print := (List.mem_cons_of_mem _ (List.mem_append_left _ (List.mem_append_left _ (List.mem_append_left _ (List.mem_of_getElem? (i := 1) rfl)))))
def fX11_print_0 (x1 : Int32) (x2 : Int32) (x3 : Int32) (x4 : Int32) (u : SX) : Option (Int32 × SX) := ((fX2_has_11 x1 u).bind fun q => match q with | (r1, u2) => (if r1 = 0 then (some ((-1), u2)) else (if x3 < (-400) then (some ((-1), u2)) else (if 400 < x4 then (some ((-1), u2)) else (if x3 ≤ x4 then (if x2 = 0 then (if (u2.1 36) < 40 then ((fX2_addPrint_11 x1 x3 x4 (u2.1 0) u2).bind fun q => match q with | (r4, u5) => (some (r4, u5))) else (some ((-1), u2))) else (if (u2.1 37) < 20 then ((fX2_addPaper_11 x1 x3 x4 (u2.1 0) u2).bind fun q => match q with | (r7, u8) => (some (r7, u8))) else (some ((-1), u2)))) else (some ((-1), u2)))))))
set_option maxHeartbeats 4000000 in
set_option maxRecDepth 100000 in
theorem wX11_print_0 {p : Program} {l : Launch} {e : Env} {s : State} {m : MethodId} {args : Array Value} {below : List Frame} {meth : Method} {c : Code} {D : va_G} {cy : Nat → ClassId} {ad st : Nat → Nat} (C : Cx RX11 cX11_print 5 (some .int) wsX11_print p s m args meth c) (hK : Kx D [(cy 0, .int), (cy 1, .long), (cy 2, .boolean), (cy 3, .byte), (cy 4, .object "HissHorn$Text")] st s) (hJ : JX ad) (x1 : Int32) (x2 : Int32) (x3 : Int32) (x4 : Int32) {u : SX} {r : Int32} {u' : SX} {H : Heap} {locs : List Loc} {ls : Array Slot} (h : fX11_print_0 x1 x2 x3 x4 u = some (r, u')) (hP : va_P D vwCl (VX cy ad st u) H) (hS : va_S (Ax (AX ad) s.heap.size) s.heap H locs) (hl : lv_has ls 5 [(0, .ref (ad 0)), (1, .int x1), (2, .int x2), (3, .int x3), (4, .int x4)]) : W p l e rmX11_print_0 s m args below meth c H locs 0 0 (MQ below (Qi D (VX cy ad st) (AX ad) s.heap.size r u') args s 0 0 (Ax (AX ad) s.heap.size)) (F0 m 0 ls []) := by
  unfold fX11_print_0 at h
  refine lv_aload_n C.1 C.2.1 dX11_print_0 rfl (lv_at hl 0 rfl) ?_
  refine gX_0_houses C hX11_print_0_X11 hK hP mX11_print_0_1 dX11_print_1 ?_
  refine lv_iload_n C.1 C.2.1 dX11_print_4 rfl (lv_at hl 1 rfl) ?_
  obtain ⟨⟨r1, u2⟩, hc3, h⟩ := bd_some h
  try dsimp only at h
  refine cg_i (As := [.int x1]) (rest := []) C hK hP hS (metX2_has_11 l D cy ad st hJ _ x1 hc3) (cwV 1 C.2.2.2.2.2.1 gX11_print_X2_has rfl rfl rfl (by decide +kernel) ⟨(Nat.le_of_ble_eq_true rfl), (Nat.le_of_ble_eq_true rfl)⟩) 11 2 rfl rfl rfl hl.1 rfl (Nat.le_of_ble_eq_true rfl) dX11_print_5 ⟨Nat.zero_le _, Nat.zero_le _⟩ (fun H locs hP hS => ?_)
  refine lv_if_eq (tgt := 32) C.1 C.2.1 dX11_print_8 (by decide) (fun c8 => ?_) (fun c8 => ?_)
  · rw [if_pos c8] at h
    refine lv_iconst (v := (-1)) C.1 C.2.1 dX11_print_32 (by decide) ?_
    cases h
    exact rt_i C hP hS dX11_print_33
  · rw [if_neg c8] at h
    refine lv_iload_n C.1 C.2.1 dX11_print_11 rfl (lv_at hl 3 rfl) ?_
    refine lv_sipush (v := (-400)) C.1 C.2.1 dX11_print_12 (by decide) ?_
    refine lv_icmp_lt (tgt := 32) C.1 C.2.1 dX11_print_15 (by decide) (fun c15 => ?_) (fun c15 => ?_)
    · rw [if_pos c15] at h
      refine lv_iconst (v := (-1)) C.1 C.2.1 dX11_print_32 (by decide) ?_
      cases h
      exact rt_i C hP hS dX11_print_33
    · rw [if_neg c15] at h
      refine lv_iload C.1 C.2.1 dX11_print_18 (lv_at hl 4 rfl) ?_
      refine lv_sipush (v := 400) C.1 C.2.1 dX11_print_20 (by decide) ?_
      refine lv_icmp_gt (tgt := 32) C.1 C.2.1 dX11_print_23 (by decide) (fun c23 => ?_) (fun c23 => ?_)
      · rw [if_pos c23] at h
        refine lv_iconst (v := (-1)) C.1 C.2.1 dX11_print_32 (by decide) ?_
        cases h
        exact rt_i C hP hS dX11_print_33
      · rw [if_neg c23] at h
        refine lv_iload C.1 C.2.1 dX11_print_26 (lv_at hl 4 rfl) ?_
        refine lv_iload_n C.1 C.2.1 dX11_print_28 rfl (lv_at hl 3 rfl) ?_
        refine lv_icmp_ge (tgt := 34) C.1 C.2.1 dX11_print_29 (by decide) (fun c29 => ?_) (fun c29 => ?_)
        · rw [if_pos c29] at h
          refine lv_iload_n C.1 C.2.1 dX11_print_34 rfl (lv_at hl 2 rfl) ?_
          refine lv_if_eq (tgt := 70) C.1 C.2.1 dX11_print_35 (by decide) (fun c35 => ?_) (fun c35 => ?_)
          · rw [if_pos c35] at h
            refine lv_aload_n C.1 C.2.1 dX11_print_70 rfl (lv_at hl 0 rfl) ?_
            refine gX_0_houses C hX11_print_0_X11 hK hP mX11_print_0_1 dX11_print_71 ?_
            refine gX_11_prints C hX11_print_0_X2 hK hP mX11_print_0_3 dX11_print_74 ?_
            refine lv_bipush (v := 40) C.1 C.2.1 dX11_print_77 (by decide) ?_
            refine lv_icmp_lt (tgt := 86) C.1 C.2.1 dX11_print_79 (by decide) (fun c79 => ?_) (fun c79 => ?_)
            · rw [if_pos c79] at h
              refine lv_aload_n C.1 C.2.1 dX11_print_86 rfl (lv_at hl 0 rfl) ?_
              refine gX_0_houses C hX11_print_0_X11 hK hP mX11_print_0_1 dX11_print_87 ?_
              refine lv_iload_n C.1 C.2.1 dX11_print_90 rfl (lv_at hl 1 rfl) ?_
              refine lv_iload_n C.1 C.2.1 dX11_print_91 rfl (lv_at hl 3 rfl) ?_
              refine lv_iload C.1 C.2.1 dX11_print_92 (lv_at hl 4 rfl) ?_
              refine lv_aload_n C.1 C.2.1 dX11_print_94 rfl (lv_at hl 0 rfl) ?_
              refine gX_0_now C hX11_print_0_X11 hK hP mX11_print_0_4 dX11_print_95 ?_
              obtain ⟨⟨r4, u5⟩, hc6, h⟩ := bd_some h
              try dsimp only at h
              refine cg_i (As := [.int x1, .int x3, .int x4, .int (u2.1 0)]) (rest := []) C hK hP hS (metX2_addPrint_11 l D cy ad st hJ _ x1 x3 x4 (u2.1 0) hc6) (cwV 4 C.2.2.2.2.2.1 gX11_print_X2_addPrint rfl rfl rfl (by decide +kernel) ⟨(Nat.le_of_ble_eq_true rfl), (Nat.le_of_ble_eq_true rfl)⟩) 11 2 rfl rfl rfl hl.1 rfl (Nat.le_of_ble_eq_true rfl) dX11_print_98 ⟨Nat.zero_le _, Nat.zero_le _⟩ (fun H locs hP hS => ?_)
              cases h
              exact rt_i C hP hS dX11_print_101
            · rw [if_neg c79] at h
              refine lv_iconst (v := (-1)) C.1 C.2.1 dX11_print_82 (by decide) ?_
              refine lv_goto (tgt := 101) C.1 C.2.1 dX11_print_83 (by decide) ?_
              cases h
              exact rt_i C hP hS dX11_print_101
          · rw [if_neg c35] at h
            refine lv_aload_n C.1 C.2.1 dX11_print_38 rfl (lv_at hl 0 rfl) ?_
            refine gX_0_houses C hX11_print_0_X11 hK hP mX11_print_0_1 dX11_print_39 ?_
            refine gX_11_papers C hX11_print_0_X2 hK hP mX11_print_0_5 dX11_print_42 ?_
            refine lv_bipush (v := 20) C.1 C.2.1 dX11_print_45 (by decide) ?_
            refine lv_icmp_lt (tgt := 54) C.1 C.2.1 dX11_print_47 (by decide) (fun c47 => ?_) (fun c47 => ?_)
            · rw [if_pos c47] at h
              refine lv_aload_n C.1 C.2.1 dX11_print_54 rfl (lv_at hl 0 rfl) ?_
              refine gX_0_houses C hX11_print_0_X11 hK hP mX11_print_0_1 dX11_print_55 ?_
              refine lv_iload_n C.1 C.2.1 dX11_print_58 rfl (lv_at hl 1 rfl) ?_
              refine lv_iload_n C.1 C.2.1 dX11_print_59 rfl (lv_at hl 3 rfl) ?_
              refine lv_iload C.1 C.2.1 dX11_print_60 (lv_at hl 4 rfl) ?_
              refine lv_aload_n C.1 C.2.1 dX11_print_62 rfl (lv_at hl 0 rfl) ?_
              refine gX_0_now C hX11_print_0_X11 hK hP mX11_print_0_4 dX11_print_63 ?_
              obtain ⟨⟨r7, u8⟩, hc9, h⟩ := bd_some h
              try dsimp only at h
              refine cg_i (As := [.int x1, .int x3, .int x4, .int (u2.1 0)]) (rest := []) C hK hP hS (metX2_addPaper_11 l D cy ad st hJ _ x1 x3 x4 (u2.1 0) hc9) (cwV 4 C.2.2.2.2.2.1 gX11_print_X2_addPaper rfl rfl rfl (by decide +kernel) ⟨(Nat.le_of_ble_eq_true rfl), (Nat.le_of_ble_eq_true rfl)⟩) 11 2 rfl rfl rfl hl.1 rfl (Nat.le_of_ble_eq_true rfl) dX11_print_66 ⟨Nat.zero_le _, Nat.zero_le _⟩ (fun H locs hP hS => ?_)
              cases h
              exact rt_i C hP hS dX11_print_69
            · rw [if_neg c47] at h
              refine lv_iconst (v := (-1)) C.1 C.2.1 dX11_print_50 (by decide) ?_
              refine lv_goto (tgt := 69) C.1 C.2.1 dX11_print_51 (by decide) ?_
              cases h
              exact rt_i C hP hS dX11_print_69
        · rw [if_neg c29] at h
          refine lv_iconst (v := (-1)) C.1 C.2.1 dX11_print_32 (by decide) ?_
          cases h
          exact rt_i C hP hS dX11_print_33
theorem metX11_print_0 (l : Launch) (D : va_G) (cy : Nat → ClassId) (ad st : Nat → Nat) (hJ : JX ad) (sz : Nat) (x1 : Int32) (x2 : Int32) (x3 : Int32) (x4 : Int32) {u : SX} {r : Int32} {u' : SX} (h : fX11_print_0 x1 x2 x3 x4 u = some (r, u')) : Met l yX11_print wsX11_print rmX11_print_0 (va_Pc [.ref (ad 0), .int x1, .int x2, .int x3, .int x4] (Px D [(cy 0, .int), (cy 1, .long), (cy 2, .boolean), (cy 3, .byte), (cy 4, .object "HissHorn$Text")] st (VX cy ad st) sz u)) (Qi D (VX cy ad st) (AX ad) sz r u') 0 0 (Ax (AX ad) sz) := by
  refine Met.ofW (cc := cX11_print) (maxL := 5) (ret := (some .int)) (by decide) rfl ?_
  intro p e s m args below meth c s₁ B hml hv
  obtain ⟨rfl, hsz, hP, hK⟩ := hv
  subst hsz
  have C : Cx RX11 cX11_print 5 (some .int) wsX11_print p s m _ meth c := ⟨B.exec, B.bytes, hml, B.returns, findClass_of_methodNamed B.named, atoms_spec (ws := wsX11_print) B.pre, B.notSynchronized⟩
  have hl := lv_entry ([.ref (ad 0), .int x1, .int x2, .int x3, .int x4]) (n := 5) (Nat.le_of_ble_eq_true rfl)
  rw [lg_entry_eq]
  exact wX11_print_0 C hK hJ x1 x2 x3 x4 h hP va_S.rf hl

theorem dX2_having_61 : decode cX2_having 61 = .ok (.iinc 4 1, 3) := by decide +kernel
theorem dX2_having_64 : decode cX2_having 64 = .ok (.goto (-59), 3) := by decide +kernel
theorem dX2_having_29 : decode cX2_having 29 = .ok (.istore 5, 2) := by decide +kernel
theorem dX2_having_31 : decode cX2_having 31 = .ok (.aload_n 0, 1) := by decide +kernel
theorem dX2_having_32 : decode cX2_having 32 = .ok (.getfield 31, 3) := by decide +kernel
theorem dX2_having_35 : decode cX2_having 35 = .ok (.iload 4, 2) := by decide +kernel
theorem dX2_having_37 : decode cX2_having 37 = .ok (.iaload, 1) := by decide +kernel
theorem dX2_having_38 : decode cX2_having 38 = .ok (.iload_n 1, 1) := by decide +kernel
theorem dX2_having_39 : decode cX2_having 39 = .ok (.if_icmp .gt 22, 3) := by decide +kernel
theorem dX2_having_42 : decode cX2_having 42 = .ok (.aload_n 0, 1) := by decide +kernel
theorem dX2_having_43 : decode cX2_having 43 = .ok (.getfield 28, 3) := by decide +kernel
theorem dX2_having_46 : decode cX2_having 46 = .ok (.iload 4, 2) := by decide +kernel
theorem dX2_having_48 : decode cX2_having 48 = .ok (.iaload, 1) := by decide +kernel
theorem dX2_having_49 : decode cX2_having 49 = .ok (.ifCond .le 12, 3) := by decide +kernel
theorem dX2_having_52 : decode cX2_having 52 = .ok (.iload 5, 2) := by decide +kernel
theorem dX2_having_54 : decode cX2_having 54 = .ok (.iload_n 2, 1) := by decide +kernel
theorem dX2_having_55 : decode cX2_having 55 = .ok (.if_icmp .ne 6, 3) := by decide +kernel
theorem dX2_having_58 : decode cX2_having 58 = .ok (.iinc 3 1, 3) := by decide +kernel
theorem dX2_having_5 : decode cX2_having 5 = .ok (.iload 4, 2) := by decide +kernel
theorem dX2_having_7 : decode cX2_having 7 = .ok (.aload_n 0, 1) := by decide +kernel
theorem dX2_having_8 : decode cX2_having 8 = .ok (.getfield 54, 3) := by decide +kernel
theorem dX2_having_11 : decode cX2_having 11 = .ok (.if_icmp .ge 56, 3) := by decide +kernel
theorem dX2_having_67 : decode cX2_having 67 = .ok (.iload_n 3, 1) := by decide +kernel
theorem dX2_having_68 : decode cX2_having 68 = .ok (.ireturn, 1) := by decide +kernel
theorem dX2_having_14 : decode cX2_having 14 = .ok (.aload_n 0, 1) := by decide +kernel
theorem dX2_having_15 : decode cX2_having 15 = .ok (.getfield 25, 3) := by decide +kernel
theorem dX2_having_18 : decode cX2_having 18 = .ok (.iload 4, 2) := by decide +kernel
theorem dX2_having_20 : decode cX2_having 20 = .ok (.iaload, 1) := by decide +kernel
theorem dX2_having_21 : decode cX2_having 21 = .ok (.ifCond .le 7, 3) := by decide +kernel
theorem dX2_having_28 : decode cX2_having 28 = .ok (.iconst 0, 1) := by decide +kernel
theorem dX2_having_24 : decode cX2_having 24 = .ok (.iconst 1, 1) := by decide +kernel
theorem dX2_having_25 : decode cX2_having 25 = .ok (.goto 4, 3) := by decide +kernel
theorem dX2_having_0 : decode cX2_having 0 = .ok (.iconst 0, 1) := by decide +kernel
theorem dX2_having_1 : decode cX2_having 1 = .ok (.istore_n 3, 1) := by decide +kernel
theorem dX2_having_2 : decode cX2_having 2 = .ok (.iconst 0, 1) := by decide +kernel
theorem dX2_having_3 : decode cX2_having 3 = .ok (.istore 4, 2) := by decide +kernel
/-- HissHorn$Houses.having(IZ)I of cell 11 -/
def rmX2_having_11 : Room := { frames := 0, cells := 0, slots := 0, locals := 0 }
theorem hX2_having_11_X2 : ∀ w ∈ u_ws RX2 TX2 18, w ∈ wsX2_having := fun w h => (List.mem_cons_of_mem _ (List.mem_append_right _ h))
theorem mX2_having_11_1 : Cond.fieldLink RX2 54 "HissHorn$Houses" "prints" "I" ∈ wsX2_having := (List.mem_cons_of_mem _ (List.mem_append_left _ (List.mem_of_getElem? (i := 0) rfl)))
theorem mX2_having_11_2 : Cond.fieldLink RX2 25 "HissHorn$Houses" "printFrom" "[I" ∈ wsX2_having := (List.mem_cons_of_mem _ (List.mem_append_left _ (List.mem_of_getElem? (i := 1) rfl)))
theorem mX2_having_11_3 : Cond.fieldLink RX2 31 "HissHorn$Houses" "printDay" "[I" ∈ wsX2_having := (List.mem_cons_of_mem _ (List.mem_append_left _ (List.mem_of_getElem? (i := 2) rfl)))
def GX2_having_11_61 (k5 : Int32 → Int32 → Int32 → Int32 → SX → Option (Int32 × SX)) (z1 : Int32) (z2 : Int32) (z3 : Int32) (z4 : Int32) (u : SX) : Option (Int32 × SX) := (k5 z1 z2 z3 (z4 + 1) u)
theorem mX2_having_11_4 : Cond.fieldLink RX2 28 "HissHorn$Houses" "printTo" "[I" ∈ wsX2_having := (List.mem_cons_of_mem _ (List.mem_append_left _ (List.mem_of_getElem? (i := 3) rfl)))
def GX2_having_11_29 (k5 : Int32 → Int32 → Int32 → Int32 → SX → Option (Int32 × SX)) (z1 : Int32) (z2 : Int32) (z3 : Int32) (z4 : Int32) (y0 : Int32) (u : SX) : Option (Int32 × SX) := (gd (inb z4 40) (if z1 < (u.2.1 65 z4.toNatClampNeg) then (GX2_having_11_61 k5 z1 z2 z3 z4 u) else (gd (inb z4 40) (if (u.2.1 64 z4.toNatClampNeg) ≤ 0 then (GX2_having_11_61 k5 z1 z2 z3 z4 u) else (if y0 = z2 then (GX2_having_11_61 k5 z1 z2 (z3 + 1) z4 u) else (GX2_having_11_61 k5 z1 z2 z3 z4 u))))))
def LX2_having_11_5  : Nat → Int32 → Int32 → Int32 → Int32 → SX → Option (Int32 × SX)
  | 0, _, _, _, _, _ => none
  | n + 1, z1, z2, z3, z4, u => (if (u.1 36) ≤ z4 then (some (z3, u)) else (gd (inb z4 40) (if (u.2.1 63 z4.toNatClampNeg) ≤ 0 then (GX2_having_11_29 (LX2_having_11_5 n) z1 z2 z3 z4 0 u) else (GX2_having_11_29 (LX2_having_11_5 n) z1 z2 z3 z4 1 u))))
def fX2_having_11 (x1 : Int32) (x2 : Int32) (u : SX) : Option (Int32 × SX) := (LX2_having_11_5  5000 x1 x2 0 0 u)
set_option maxHeartbeats 4000000 in
set_option maxRecDepth 100000 in
theorem wGX2_having_11_61 {p : Program} {l : Launch} {e : Env} {s : State} {m : MethodId} {args : Array Value} {below : List Frame} {meth : Method} {c : Code} {D : va_G} {cy : Nat → ClassId} {ad st : Nat → Nat} (C : Cx RX2 cX2_having 6 (some .int) wsX2_having p s m args meth c) (hK : Kx D [(cy 0, .int), (cy 1, .long), (cy 2, .boolean), (cy 3, .byte), (cy 4, .object "HissHorn$Text")] st s) (hJ : JX ad) {r : Int32} {u' : SX} {k5 : Int32 → Int32 → Int32 → Int32 → SX → Option (Int32 × SX)} (hk5 : ∀ (z1 : Int32) (z2 : Int32) (z3 : Int32) (z4 : Int32) (u : SX) (H : Heap) (locs : List Loc) (ls : Array Slot), k5 z1 z2 z3 z4 u = some (r, u') → va_P D vwCl (VX cy ad st u) H → va_S (Ax (AX ad) s.heap.size) s.heap H locs → lv_has ls 6 [(0, .ref (ad 11)), (1, .int z1), (2, .int z2), (3, .int z3), (4, .int z4)] → W p l e rmX2_having_11 s m args below meth c H locs 0 0 (MQ below (Qi D (VX cy ad st) (AX ad) s.heap.size r u') args s 0 0 (Ax (AX ad) s.heap.size)) (F0 m 5 ls [])) (z1 : Int32) (z2 : Int32) (z3 : Int32) (z4 : Int32) (u : SX) (H : Heap) (locs : List Loc) (ls : Array Slot) (h : GX2_having_11_61 k5 z1 z2 z3 z4 u = some (r, u')) (hP : va_P D vwCl (VX cy ad st u) H) (hS : va_S (Ax (AX ad) s.heap.size) s.heap H locs) (hl : lv_has ls 6 [(0, .ref (ad 11)), (1, .int z1), (2, .int z2), (3, .int z3), (4, .int z4)]) : W p l e rmX2_having_11 s m args below meth c H locs 0 0 (MQ below (Qi D (VX cy ad st) (AX ad) s.heap.size r u') args s 0 0 (Ax (AX ad) s.heap.size)) (F0 m 61 ls []) := by
  unfold GX2_having_11_61 at h
  refine lv_iinc (v := z4 + 1) (lv' := [(4, .int (z4 + 1)), (0, .ref (ad 11)), (1, .int z1), (2, .int z2), (3, .int z3)]) C.1 C.2.1 dX2_having_61 hl (k := 4) rfl rfl (by decide) rfl (fun ls hl => ?_)
  replace hl := lv_sub (l' := [(0, .ref (ad 11)), (1, .int z1), (2, .int z2), (3, .int z3), (4, .int (z4 + 1))]) hl [1, 2, 3, 4, 0] rfl
  refine lv_goto (tgt := 5) C.1 C.2.1 dX2_having_64 (by decide) ?_
  exact hk5 _ _ _ _ _ _ _ _ h hP hS hl
set_option maxHeartbeats 4000000 in
set_option maxRecDepth 100000 in
theorem wGX2_having_11_29 {p : Program} {l : Launch} {e : Env} {s : State} {m : MethodId} {args : Array Value} {below : List Frame} {meth : Method} {c : Code} {D : va_G} {cy : Nat → ClassId} {ad st : Nat → Nat} (C : Cx RX2 cX2_having 6 (some .int) wsX2_having p s m args meth c) (hK : Kx D [(cy 0, .int), (cy 1, .long), (cy 2, .boolean), (cy 3, .byte), (cy 4, .object "HissHorn$Text")] st s) (hJ : JX ad) {r : Int32} {u' : SX} {k5 : Int32 → Int32 → Int32 → Int32 → SX → Option (Int32 × SX)} (hk5 : ∀ (z1 : Int32) (z2 : Int32) (z3 : Int32) (z4 : Int32) (u : SX) (H : Heap) (locs : List Loc) (ls : Array Slot), k5 z1 z2 z3 z4 u = some (r, u') → va_P D vwCl (VX cy ad st u) H → va_S (Ax (AX ad) s.heap.size) s.heap H locs → lv_has ls 6 [(0, .ref (ad 11)), (1, .int z1), (2, .int z2), (3, .int z3), (4, .int z4)] → W p l e rmX2_having_11 s m args below meth c H locs 0 0 (MQ below (Qi D (VX cy ad st) (AX ad) s.heap.size r u') args s 0 0 (Ax (AX ad) s.heap.size)) (F0 m 5 ls [])) (z1 : Int32) (z2 : Int32) (z3 : Int32) (z4 : Int32) (y0 : Int32) (u : SX) (H : Heap) (locs : List Loc) (ls : Array Slot) (h : GX2_having_11_29 k5 z1 z2 z3 z4 y0 u = some (r, u')) (hP : va_P D vwCl (VX cy ad st u) H) (hS : va_S (Ax (AX ad) s.heap.size) s.heap H locs) (hl : lv_has ls 6 [(0, .ref (ad 11)), (1, .int z1), (2, .int z2), (3, .int z3), (4, .int z4)]) : W p l e rmX2_having_11 s m args below meth c H locs 0 0 (MQ below (Qi D (VX cy ad st) (AX ad) s.heap.size r u') args s 0 0 (Ax (AX ad) s.heap.size)) (F0 m 29 ls [.int y0]) := by
  unfold GX2_having_11_29 at h
  refine lv_istore (lv' := [(5, .int y0), (0, .ref (ad 11)), (1, .int z1), (2, .int z2), (3, .int z3), (4, .int z4)]) C.1 C.2.1 dX2_having_29 hl (by decide) rfl (fun ls hl => ?_)
  replace hl := lv_sub (l' := [(0, .ref (ad 11)), (1, .int z1), (2, .int z2), (3, .int z3), (4, .int z4), (5, .int y0)]) hl [1, 2, 3, 4, 5, 0] rfl
  refine lv_aload_n C.1 C.2.1 dX2_having_31 rfl (lv_at hl 0 rfl) ?_
  refine gX_11_printDay C hX2_having_11_X2 hK hP mX2_having_11_3 dX2_having_32 ?_
  refine lv_iload C.1 C.2.1 dX2_having_35 (lv_at hl 4 rfl) ?_
  obtain ⟨hg2, h⟩ := gd_some h
  refine lX_65 C hK hP hg2 dX2_having_37 ?_
  refine lv_iload_n C.1 C.2.1 dX2_having_38 rfl (lv_at hl 1 rfl) ?_
  refine lv_icmp_gt (tgt := 61) C.1 C.2.1 dX2_having_39 (by decide) (fun c39 => ?_) (fun c39 => ?_)
  · rw [if_pos c39] at h
    exact wGX2_having_11_61 C hK hJ hk5 _ _ _ _ _ _ _ _ h hP hS (lv_sub hl [0, 1, 2, 3, 4] rfl)
  · rw [if_neg c39] at h
    refine lv_aload_n C.1 C.2.1 dX2_having_42 rfl (lv_at hl 0 rfl) ?_
    refine gX_11_printTo C hX2_having_11_X2 hK hP mX2_having_11_4 dX2_having_43 ?_
    refine lv_iload C.1 C.2.1 dX2_having_46 (lv_at hl 4 rfl) ?_
    obtain ⟨hg3, h⟩ := gd_some h
    refine lX_64 C hK hP hg3 dX2_having_48 ?_
    refine lv_if_le (tgt := 61) C.1 C.2.1 dX2_having_49 (by decide) (fun c49 => ?_) (fun c49 => ?_)
    · rw [if_pos c49] at h
      exact wGX2_having_11_61 C hK hJ hk5 _ _ _ _ _ _ _ _ h hP hS (lv_sub hl [0, 1, 2, 3, 4] rfl)
    · rw [if_neg c49] at h
      refine lv_iload C.1 C.2.1 dX2_having_52 (lv_at hl 5 rfl) ?_
      refine lv_iload_n C.1 C.2.1 dX2_having_54 rfl (lv_at hl 2 rfl) ?_
      refine lv_icmp_ne (tgt := 61) C.1 C.2.1 dX2_having_55 (by decide) (fun c55 => ?_) (fun c55 => ?_)
      · rw [if_neg c55] at h
        exact wGX2_having_11_61 C hK hJ hk5 _ _ _ _ _ _ _ _ h hP hS (lv_sub hl [0, 1, 2, 3, 4] rfl)
      · rw [if_pos c55] at h
        refine lv_iinc (v := z3 + 1) (lv' := [(3, .int (z3 + 1)), (0, .ref (ad 11)), (1, .int z1), (2, .int z2), (4, .int z4), (5, .int y0)]) C.1 C.2.1 dX2_having_58 hl (k := 3) rfl rfl (by decide) rfl (fun ls hl => ?_)
        replace hl := lv_sub (l' := [(0, .ref (ad 11)), (1, .int z1), (2, .int z2), (3, .int (z3 + 1)), (4, .int z4), (5, .int y0)]) hl [1, 2, 3, 0, 4, 5] rfl
        exact wGX2_having_11_61 C hK hJ hk5 _ _ _ _ _ _ _ _ h hP hS (lv_sub hl [0, 1, 2, 3, 4] rfl)
set_option maxHeartbeats 4000000 in
set_option maxRecDepth 100000 in
theorem wLX2_having_11_5 {p : Program} {l : Launch} {e : Env} {s : State} {m : MethodId} {args : Array Value} {below : List Frame} {meth : Method} {c : Code} {D : va_G} {cy : Nat → ClassId} {ad st : Nat → Nat} (C : Cx RX2 cX2_having 6 (some .int) wsX2_having p s m args meth c) (hK : Kx D [(cy 0, .int), (cy 1, .long), (cy 2, .boolean), (cy 3, .byte), (cy 4, .object "HissHorn$Text")] st s) (hJ : JX ad) {r : Int32} {u' : SX}   : ∀ (n : Nat) (z1 : Int32) (z2 : Int32) (z3 : Int32) (z4 : Int32) (u : SX) (H : Heap) (locs : List Loc) (ls : Array Slot), LX2_having_11_5  n z1 z2 z3 z4 u = some (r, u') → va_P D vwCl (VX cy ad st u) H → va_S (Ax (AX ad) s.heap.size) s.heap H locs → lv_has ls 6 [(0, .ref (ad 11)), (1, .int z1), (2, .int z2), (3, .int z3), (4, .int z4)] → W p l e rmX2_having_11 s m args below meth c H locs 0 0 (MQ below (Qi D (VX cy ad st) (AX ad) s.heap.size r u') args s 0 0 (Ax (AX ad) s.heap.size)) (F0 m 5 ls []) := by
  intro n
  induction n with
  | zero =>
    intro z1 z2 z3 z4 u H locs ls h
    exact absurd h (by intro q; cases q)
  | succ n ih =>
    intro z1 z2 z3 z4 u H locs ls h hP hS hl
    rw [LX2_having_11_5] at h
    refine lv_iload C.1 C.2.1 dX2_having_5 (lv_at hl 4 rfl) ?_
    refine lv_aload_n C.1 C.2.1 dX2_having_7 rfl (lv_at hl 0 rfl) ?_
    refine gX_11_prints C hX2_having_11_X2 hK hP mX2_having_11_1 dX2_having_8 ?_
    refine lv_icmp_ge (tgt := 67) C.1 C.2.1 dX2_having_11 (by decide) (fun c11 => ?_) (fun c11 => ?_)
    · rw [if_pos c11] at h
      refine lv_iload_n C.1 C.2.1 dX2_having_67 rfl (lv_at hl 3 rfl) ?_
      cases h
      exact rt_i C hP hS dX2_having_68
    · rw [if_neg c11] at h
      refine lv_aload_n C.1 C.2.1 dX2_having_14 rfl (lv_at hl 0 rfl) ?_
      refine gX_11_printFrom C hX2_having_11_X2 hK hP mX2_having_11_2 dX2_having_15 ?_
      refine lv_iload C.1 C.2.1 dX2_having_18 (lv_at hl 4 rfl) ?_
      obtain ⟨hg1, h⟩ := gd_some h
      refine lX_63 C hK hP hg1 dX2_having_20 ?_
      refine lv_if_le (tgt := 28) C.1 C.2.1 dX2_having_21 (by decide) (fun c21 => ?_) (fun c21 => ?_)
      · rw [if_pos c21] at h
        refine lv_iconst (v := 0) C.1 C.2.1 dX2_having_28 (by decide) ?_
        exact wGX2_having_11_29 C hK hJ ih _ _ _ _ _ _ _ _ _ h hP hS hl
      · rw [if_neg c21] at h
        refine lv_iconst (v := 1) C.1 C.2.1 dX2_having_24 (by decide) ?_
        refine lv_goto (tgt := 29) C.1 C.2.1 dX2_having_25 (by decide) ?_
        exact wGX2_having_11_29 C hK hJ ih _ _ _ _ _ _ _ _ _ h hP hS hl
set_option maxHeartbeats 4000000 in
set_option maxRecDepth 100000 in
theorem wX2_having_11 {p : Program} {l : Launch} {e : Env} {s : State} {m : MethodId} {args : Array Value} {below : List Frame} {meth : Method} {c : Code} {D : va_G} {cy : Nat → ClassId} {ad st : Nat → Nat} (C : Cx RX2 cX2_having 6 (some .int) wsX2_having p s m args meth c) (hK : Kx D [(cy 0, .int), (cy 1, .long), (cy 2, .boolean), (cy 3, .byte), (cy 4, .object "HissHorn$Text")] st s) (hJ : JX ad) (x1 : Int32) (x2 : Int32) {u : SX} {r : Int32} {u' : SX} {H : Heap} {locs : List Loc} {ls : Array Slot} (h : fX2_having_11 x1 x2 u = some (r, u')) (hP : va_P D vwCl (VX cy ad st u) H) (hS : va_S (Ax (AX ad) s.heap.size) s.heap H locs) (hl : lv_has ls 6 [(0, .ref (ad 11)), (1, .int x1), (2, .int x2)]) : W p l e rmX2_having_11 s m args below meth c H locs 0 0 (MQ below (Qi D (VX cy ad st) (AX ad) s.heap.size r u') args s 0 0 (Ax (AX ad) s.heap.size)) (F0 m 0 ls []) := by
  unfold fX2_having_11 at h
  refine lv_iconst (v := 0) C.1 C.2.1 dX2_having_0 (by decide) ?_
  refine lv_istore_n (lv' := [(3, .int 0), (0, .ref (ad 11)), (1, .int x1), (2, .int x2)]) C.1 C.2.1 dX2_having_1 rfl hl (by decide) rfl (fun ls hl => ?_)
  replace hl := lv_sub (l' := [(0, .ref (ad 11)), (1, .int x1), (2, .int x2), (3, .int 0)]) hl [1, 2, 3, 0] rfl
  refine lv_iconst (v := 0) C.1 C.2.1 dX2_having_2 (by decide) ?_
  refine lv_istore (lv' := [(4, .int 0), (0, .ref (ad 11)), (1, .int x1), (2, .int x2), (3, .int 0)]) C.1 C.2.1 dX2_having_3 hl (by decide) rfl (fun ls hl => ?_)
  replace hl := lv_sub (l' := [(0, .ref (ad 11)), (1, .int x1), (2, .int x2), (3, .int 0), (4, .int 0)]) hl [1, 2, 3, 4, 0] rfl
  exact wLX2_having_11_5 C hK hJ  5000 _ _ _ _ _ _ _ _ h hP hS hl
theorem metX2_having_11 (l : Launch) (D : va_G) (cy : Nat → ClassId) (ad st : Nat → Nat) (hJ : JX ad) (sz : Nat) (x1 : Int32) (x2 : Int32) {u : SX} {r : Int32} {u' : SX} (h : fX2_having_11 x1 x2 u = some (r, u')) : Met l yX2_having wsX2_having rmX2_having_11 (va_Pc [.ref (ad 11), .int x1, .int x2] (Px D [(cy 0, .int), (cy 1, .long), (cy 2, .boolean), (cy 3, .byte), (cy 4, .object "HissHorn$Text")] st (VX cy ad st) sz u)) (Qi D (VX cy ad st) (AX ad) sz r u') 0 0 (Ax (AX ad) sz) := by
  refine Met.ofW (cc := cX2_having) (maxL := 6) (ret := (some .int)) (by decide) rfl ?_
  intro p e s m args below meth c s₁ B hml hv
  obtain ⟨rfl, hsz, hP, hK⟩ := hv
  subst hsz
  have C : Cx RX2 cX2_having 6 (some .int) wsX2_having p s m _ meth c := ⟨B.exec, B.bytes, hml, B.returns, findClass_of_methodNamed B.named, atoms_spec (ws := wsX2_having) B.pre, B.notSynchronized⟩
  have hl := lv_entry ([.ref (ad 11), .int x1, .int x2]) (n := 6) (Nat.le_of_ble_eq_true rfl)
  rw [lg_entry_eq]
  exact wX2_having_11 C hK hJ x1 x2 h hP va_S.rf hl

set_option maxRecDepth 20000 in
theorem ggX11_had_X2_having : GoodIn wsX11_had wsX2_having := goodIn_r _ [18, 19, 20, 21, 22, 36, 37, 38, 39, 40, 41, 42, 43, 44, 45, 46, 47, 48, 49, 50, 51, 52, 53] (by decide +kernel) (by decide +kernel)
set_option maxRecDepth 20000 in
theorem gX11_had_X2_having : GoodIn wsX11_had (wsV RX11 336 RX2 yX2_having wsX2_having) := goodIn_app (goodIn_of _ (by decide +kernel)) ggX11_had_X2_having
theorem dX11_had_29 : decode cX11_had 29 = .ok (.invokevirtual 336, 3) := by decide +kernel
theorem dX11_had_32 : decode cX11_had 32 = .ok (.goto 4, 3) := by decide +kernel
theorem dX11_had_36 : decode cX11_had 36 = .ok (.ireturn, 1) := by decide +kernel
theorem dX11_had_0 : decode cX11_had 0 = .ok (.aload_n 0, 1) := by decide +kernel
theorem dX11_had_1 : decode cX11_had 1 = .ok (.iload_n 1, 1) := by decide +kernel
set_option maxRecDepth 20000 in
theorem ggX11_had_X11_isDay : GoodIn wsX11_had wsX11_isDay := goodIn_r _ [6, 7, 8, 9, 5, 10, 23, 24, 25, 26, 27, 28, 29, 30, 31, 32, 33, 34, 35] (by decide +kernel) (by decide +kernel)
set_option maxRecDepth 20000 in
theorem gX11_had_X11_isDay : GoodIn wsX11_had (wsV RX11 174 RX11 yX11_isDay wsX11_isDay) := goodIn_app (goodIn_of _ (by decide +kernel)) ggX11_had_X11_isDay
theorem dX11_had_2 : decode cX11_had 2 = .ok (.invokevirtual 174, 3) := by decide +kernel
theorem dX11_had_5 : decode cX11_had 5 = .ok (.ifCond .eq 30, 3) := by decide +kernel
theorem dX11_had_35 : decode cX11_had 35 = .ok (.iconst (-1), 1) := by decide +kernel
theorem dX11_had_8 : decode cX11_had 8 = .ok (.iload_n 2, 1) := by decide +kernel
set_option maxRecDepth 20000 in
theorem ggX11_had_X11_isEither : GoodIn wsX11_had wsX11_isEither := goodIn_r _ [13] (by decide +kernel) (by decide +kernel)
set_option maxRecDepth 20000 in
theorem gX11_had_X11_isEither : GoodIn wsX11_had (va_wsS RX11 177 yX11_isEither wsX11_isEither) := goodIn_app (goodIn_of _ (by decide +kernel)) ggX11_had_X11_isEither
theorem dX11_had_9 : decode cX11_had 9 = .ok (.invokestatic 177, 3) := by decide +kernel
theorem dX11_had_12 : decode cX11_had 12 = .ok (.ifCond .eq 23, 3) := by decide +kernel
theorem dX11_had_15 : decode cX11_had 15 = .ok (.aload_n 0, 1) := by decide +kernel
theorem dX11_had_16 : decode cX11_had 16 = .ok (.getfield 90, 3) := by decide +kernel
theorem dX11_had_19 : decode cX11_had 19 = .ok (.iload_n 1, 1) := by decide +kernel
theorem dX11_had_20 : decode cX11_had 20 = .ok (.iload_n 2, 1) := by decide +kernel
theorem dX11_had_21 : decode cX11_had 21 = .ok (.ifCond .ne 7, 3) := by decide +kernel
theorem dX11_had_28 : decode cX11_had 28 = .ok (.iconst 0, 1) := by decide +kernel
theorem dX11_had_24 : decode cX11_had 24 = .ok (.iconst 1, 1) := by decide +kernel
theorem dX11_had_25 : decode cX11_had 25 = .ok (.goto 4, 3) := by decide +kernel
/-- HissHorn.had(II)I of cell 0 -/
def rmX11_had_0 : Room := { frames := 2, cells := 0, slots := 0, locals := 43 }
theorem hX11_had_0_X11 : ∀ w ∈ u_ws RX11 TX11 13, w ∈ wsX11_had := fun w h => (List.mem_cons_of_mem _ (List.mem_append_left _ (List.mem_append_right _ h)))
theorem mX11_had_0_1 : Cond.fieldLink RX11 90 "HissHorn" "houses" "LHissHorn$Houses;" ∈ wsX11_had := (List.mem_cons_of_mem _ (List.mem_append_left _ (List.mem_append_left _ (List.mem_of_getElem? (i := 0) rfl))))
def GX11_had_0_29 (y0 : Int32) (y1 : Int32) (u : SX) : Option (Int32 × SX) := ((fX2_having_11 y1 y0 u).bind fun q => match q with | (r7, u8) => (some (r7, u8)))
def fX11_had_0 (x1 : Int32) (x2 : Int32) (u : SX) : Option (Int32 × SX) := ((fX11_isDay_0 x1 u).bind fun q => match q with | (r1, u2) => (if r1 = 0 then (some ((-1), u2)) else ((fX11_isEither x2).bind fun r4 => (if r4 = 0 then (some ((-1), u2)) else (if x2 = 0 then (GX11_had_0_29 1 x1 u2) else (GX11_had_0_29 0 x1 u2))))))
set_option maxHeartbeats 4000000 in
set_option maxRecDepth 100000 in
theorem wGX11_had_0_29 {p : Program} {l : Launch} {e : Env} {s : State} {m : MethodId} {args : Array Value} {below : List Frame} {meth : Method} {c : Code} {D : va_G} {cy : Nat → ClassId} {ad st : Nat → Nat} (C : Cx RX11 cX11_had 3 (some .int) wsX11_had p s m args meth c) (hK : Kx D [(cy 0, .int), (cy 1, .long), (cy 2, .boolean), (cy 3, .byte), (cy 4, .object "HissHorn$Text")] st s) (hJ : JX ad) {r : Int32} {u' : SX}   (y0 : Int32) (y1 : Int32) (u : SX) (H : Heap) (locs : List Loc) (ls : Array Slot) (h : GX11_had_0_29 y0 y1 u = some (r, u')) (hP : va_P D vwCl (VX cy ad st u) H) (hS : va_S (Ax (AX ad) s.heap.size) s.heap H locs) (hl : lv_has ls 3 []) : W p l e rmX11_had_0 s m args below meth c H locs 0 0 (MQ below (Qi D (VX cy ad st) (AX ad) s.heap.size r u') args s 0 0 (Ax (AX ad) s.heap.size)) (F0 m 29 ls [.int y0, .int y1, .ref (ad 11)]) := by
  unfold GX11_had_0_29 at h
  obtain ⟨⟨r7, u8⟩, hc9, h⟩ := bd_some h
  try dsimp only at h
  refine cg_i (As := [.int y1, .int y0]) (rest := []) C hK hP hS (metX2_having_11 l D cy ad st hJ _ y1 y0 hc9) (cwV 2 C.2.2.2.2.2.1 gX11_had_X2_having rfl rfl rfl (by decide +kernel) ⟨(Nat.le_of_ble_eq_true rfl), (Nat.le_of_ble_eq_true rfl)⟩) 11 2 rfl rfl rfl hl.1 rfl (Nat.le_of_ble_eq_true rfl) dX11_had_29 ⟨Nat.zero_le _, Nat.zero_le _⟩ (fun H locs hP hS => ?_)
  refine lv_goto (tgt := 36) C.1 C.2.1 dX11_had_32 (by decide) ?_
  cases h
  exact rt_i C hP hS dX11_had_36
set_option maxHeartbeats 4000000 in
set_option maxRecDepth 100000 in
theorem wX11_had_0 {p : Program} {l : Launch} {e : Env} {s : State} {m : MethodId} {args : Array Value} {below : List Frame} {meth : Method} {c : Code} {D : va_G} {cy : Nat → ClassId} {ad st : Nat → Nat} (C : Cx RX11 cX11_had 3 (some .int) wsX11_had p s m args meth c) (hK : Kx D [(cy 0, .int), (cy 1, .long), (cy 2, .boolean), (cy 3, .byte), (cy 4, .object "HissHorn$Text")] st s) (hJ : JX ad) (x1 : Int32) (x2 : Int32) {u : SX} {r : Int32} {u' : SX} {H : Heap} {locs : List Loc} {ls : Array Slot} (h : fX11_had_0 x1 x2 u = some (r, u')) (hP : va_P D vwCl (VX cy ad st u) H) (hS : va_S (Ax (AX ad) s.heap.size) s.heap H locs) (hl : lv_has ls 3 [(0, .ref (ad 0)), (1, .int x1), (2, .int x2)]) : W p l e rmX11_had_0 s m args below meth c H locs 0 0 (MQ below (Qi D (VX cy ad st) (AX ad) s.heap.size r u') args s 0 0 (Ax (AX ad) s.heap.size)) (F0 m 0 ls []) := by
  unfold fX11_had_0 at h
  refine lv_aload_n C.1 C.2.1 dX11_had_0 rfl (lv_at hl 0 rfl) ?_
  refine lv_iload_n C.1 C.2.1 dX11_had_1 rfl (lv_at hl 1 rfl) ?_
  obtain ⟨⟨r1, u2⟩, hc3, h⟩ := bd_some h
  try dsimp only at h
  refine cg_i (As := [.int x1]) (rest := []) C hK hP hS (metX11_isDay_0 l D cy ad st hJ _ x1 hc3) (cwV 1 C.2.2.2.2.2.1 gX11_had_X11_isDay rfl rfl rfl (by decide +kernel) ⟨(Nat.le_of_ble_eq_true rfl), (Nat.le_of_ble_eq_true rfl)⟩) 0 11 rfl rfl rfl hl.1 rfl (Nat.le_of_ble_eq_true rfl) dX11_had_2 ⟨Nat.zero_le _, Nat.zero_le _⟩ (fun H locs hP hS => ?_)
  refine lv_if_eq (tgt := 35) C.1 C.2.1 dX11_had_5 (by decide) (fun c5 => ?_) (fun c5 => ?_)
  · rw [if_pos c5] at h
    refine lv_iconst (v := (-1)) C.1 C.2.1 dX11_had_35 (by decide) ?_
    cases h
    exact rt_i C hP hS dX11_had_36
  · rw [if_neg c5] at h
    refine lv_iload_n C.1 C.2.1 dX11_had_8 rfl (lv_at hl 2 rfl) ?_
    obtain ⟨r4, hc6, h⟩ := bd_some h
    refine cs_i (As := [.int x2]) (rest := []) C hK hP hS (metX11_isEither l D cy st _ x2 hc6) (va_cwS 1 C.2.2.2.2.2.1 gX11_had_X11_isEither rfl rfl rfl (by decide +kernel) ⟨(Nat.le_of_ble_eq_true rfl), (Nat.le_of_ble_eq_true rfl)⟩) rfl hl.1 rfl (Nat.le_of_ble_eq_true rfl) dX11_had_9 ⟨Nat.zero_le _, Nat.zero_le _⟩ (fun H locs hP hS => ?_)
    refine lv_if_eq (tgt := 35) C.1 C.2.1 dX11_had_12 (by decide) (fun c12 => ?_) (fun c12 => ?_)
    · rw [if_pos c12] at h
      refine lv_iconst (v := (-1)) C.1 C.2.1 dX11_had_35 (by decide) ?_
      cases h
      exact rt_i C hP hS dX11_had_36
    · rw [if_neg c12] at h
      refine lv_aload_n C.1 C.2.1 dX11_had_15 rfl (lv_at hl 0 rfl) ?_
      refine gX_0_houses C hX11_had_0_X11 hK hP mX11_had_0_1 dX11_had_16 ?_
      refine lv_iload_n C.1 C.2.1 dX11_had_19 rfl (lv_at hl 1 rfl) ?_
      refine lv_iload_n C.1 C.2.1 dX11_had_20 rfl (lv_at hl 2 rfl) ?_
      refine lv_if_ne (tgt := 28) C.1 C.2.1 dX11_had_21 (by decide) (fun c21 => ?_) (fun c21 => ?_)
      · rw [if_neg c21] at h
        refine lv_iconst (v := 0) C.1 C.2.1 dX11_had_28 (by decide) ?_
        exact wGX11_had_0_29 C hK hJ _ _ _ _ _ _ h hP hS (lv_sub hl [] rfl)
      · rw [if_pos c21] at h
        refine lv_iconst (v := 1) C.1 C.2.1 dX11_had_24 (by decide) ?_
        refine lv_goto (tgt := 29) C.1 C.2.1 dX11_had_25 (by decide) ?_
        exact wGX11_had_0_29 C hK hJ _ _ _ _ _ _ h hP hS (lv_sub hl [] rfl)
theorem metX11_had_0 (l : Launch) (D : va_G) (cy : Nat → ClassId) (ad st : Nat → Nat) (hJ : JX ad) (sz : Nat) (x1 : Int32) (x2 : Int32) {u : SX} {r : Int32} {u' : SX} (h : fX11_had_0 x1 x2 u = some (r, u')) : Met l yX11_had wsX11_had rmX11_had_0 (va_Pc [.ref (ad 0), .int x1, .int x2] (Px D [(cy 0, .int), (cy 1, .long), (cy 2, .boolean), (cy 3, .byte), (cy 4, .object "HissHorn$Text")] st (VX cy ad st) sz u)) (Qi D (VX cy ad st) (AX ad) sz r u') 0 0 (Ax (AX ad) sz) := by
  refine Met.ofW (cc := cX11_had) (maxL := 3) (ret := (some .int)) (by decide) rfl ?_
  intro p e s m args below meth c s₁ B hml hv
  obtain ⟨rfl, hsz, hP, hK⟩ := hv
  subst hsz
  have C : Cx RX11 cX11_had 3 (some .int) wsX11_had p s m _ meth c := ⟨B.exec, B.bytes, hml, B.returns, findClass_of_methodNamed B.named, atoms_spec (ws := wsX11_had) B.pre, B.notSynchronized⟩
  have hl := lv_entry ([.ref (ad 0), .int x1, .int x2]) (n := 3) (Nat.le_of_ble_eq_true rfl)
  rw [lg_entry_eq]
  exact wX11_had_0 C hK hJ x1 x2 h hP va_S.rf hl

theorem dX2_send_0 : decode cX2_send 0 = .ok (.aload_n 0, 1) := by decide +kernel
theorem dX2_send_1 : decode cX2_send 1 = .ok (.getfield 88, 3) := by decide +kernel
theorem dX2_send_4 : decode cX2_send 4 = .ok (.bipush 60, 2) := by decide +kernel
theorem dX2_send_6 : decode cX2_send 6 = .ok (.if_icmp .lt 4, 3) := by decide +kernel
theorem dX2_send_10 : decode cX2_send 10 = .ok (.aload_n 0, 1) := by decide +kernel
theorem dX2_send_11 : decode cX2_send 11 = .ok (.getfield 15, 3) := by decide +kernel
theorem dX2_send_14 : decode cX2_send 14 = .ok (.aload_n 0, 1) := by decide +kernel
theorem dX2_send_15 : decode cX2_send 15 = .ok (.getfield 88, 3) := by decide +kernel
theorem dX2_send_18 : decode cX2_send 18 = .ok (.iload_n 1, 1) := by decide +kernel
theorem dX2_send_19 : decode cX2_send 19 = .ok (.iastore, 1) := by decide +kernel
theorem dX2_send_20 : decode cX2_send 20 = .ok (.aload_n 0, 1) := by decide +kernel
theorem dX2_send_21 : decode cX2_send 21 = .ok (.getfield 19, 3) := by decide +kernel
theorem dX2_send_24 : decode cX2_send 24 = .ok (.aload_n 0, 1) := by decide +kernel
theorem dX2_send_25 : decode cX2_send 25 = .ok (.getfield 88, 3) := by decide +kernel
theorem dX2_send_28 : decode cX2_send 28 = .ok (.iload_n 2, 1) := by decide +kernel
theorem dX2_send_29 : decode cX2_send 29 = .ok (.iastore, 1) := by decide +kernel
theorem dX2_send_30 : decode cX2_send 30 = .ok (.aload_n 0, 1) := by decide +kernel
theorem dX2_send_31 : decode cX2_send 31 = .ok (.getfield 22, 3) := by decide +kernel
theorem dX2_send_34 : decode cX2_send 34 = .ok (.aload_n 0, 1) := by decide +kernel
theorem dX2_send_35 : decode cX2_send 35 = .ok (.getfield 88, 3) := by decide +kernel
theorem dX2_send_38 : decode cX2_send 38 = .ok (.iload_n 3, 1) := by decide +kernel
theorem dX2_send_39 : decode cX2_send 39 = .ok (.iastore, 1) := by decide +kernel
theorem dX2_send_40 : decode cX2_send 40 = .ok (.aload_n 0, 1) := by decide +kernel
theorem dX2_send_41 : decode cX2_send 41 = .ok (.dup, 1) := by decide +kernel
theorem dX2_send_42 : decode cX2_send 42 = .ok (.getfield 88, 3) := by decide +kernel
theorem dX2_send_45 : decode cX2_send 45 = .ok (.iconst 1, 1) := by decide +kernel
theorem dX2_send_46 : decode cX2_send 46 = .ok (.iadd, 1) := by decide +kernel
theorem dX2_send_47 : decode cX2_send 47 = .ok (.putfield 88, 3) := by decide +kernel
theorem dX2_send_50 : decode cX2_send 50 = .ok (.aload_n 0, 1) := by decide +kernel
theorem dX2_send_51 : decode cX2_send 51 = .ok (.getfield 9, 3) := by decide +kernel
theorem dX2_send_54 : decode cX2_send 54 = .ok (.iload_n 3, 1) := by decide +kernel
theorem dX2_send_55 : decode cX2_send 55 = .ok (.iconst 1, 1) := by decide +kernel
theorem dX2_send_56 : decode cX2_send 56 = .ok (.bastore, 1) := by decide +kernel
theorem dX2_send_57 : decode cX2_send 57 = .ok (.aload_n 0, 1) := by decide +kernel
theorem dX2_send_58 : decode cX2_send 58 = .ok (.aload_n 0, 1) := by decide +kernel
theorem dX2_send_59 : decode cX2_send 59 = .ok (.getfield 79, 3) := by decide +kernel
theorem dX2_send_62 : decode cX2_send 62 = .ok (.iload_n 3, 1) := by decide +kernel
theorem dX2_send_63 : decode cX2_send 63 = .ok (.invokestatic 82, 3) := by decide +kernel
theorem dX2_send_66 : decode cX2_send 66 = .ok (.putfield 79, 3) := by decide +kernel
theorem dX2_send_69 : decode cX2_send 69 = .ok (.return_, 1) := by decide +kernel
theorem dX2_send_9 : decode cX2_send 9 = .ok (.return_, 1) := by decide +kernel
/-- HissHorn$Houses.send(III)V of cell 11 -/
def rmX2_send_11 : Room := { frames := 1, cells := 0, slots := 0, locals := 14 }
theorem hX2_send_11_X2 : ∀ w ∈ u_ws RX2 TX2 18, w ∈ wsX2_send := fun w h => (List.mem_cons_of_mem _ (List.mem_append_right _ h))
theorem mX2_send_11_1 : Cond.fieldLink RX2 88 "HissHorn$Houses" "letters" "I" ∈ wsX2_send := (List.mem_cons_of_mem _ (List.mem_append_left _ (List.mem_of_getElem? (i := 0) rfl)))
theorem mX2_send_11_2 : Cond.fieldLink RX2 15 "HissHorn$Houses" "letterFrom" "[I" ∈ wsX2_send := (List.mem_cons_of_mem _ (List.mem_append_left _ (List.mem_of_getElem? (i := 1) rfl)))
theorem mX2_send_11_3 : Cond.fieldLink RX2 19 "HissHorn$Houses" "letterTo" "[I" ∈ wsX2_send := (List.mem_cons_of_mem _ (List.mem_append_left _ (List.mem_of_getElem? (i := 2) rfl)))
theorem mX2_send_11_4 : Cond.fieldLink RX2 22 "HissHorn$Houses" "letterDay" "[I" ∈ wsX2_send := (List.mem_cons_of_mem _ (List.mem_append_left _ (List.mem_of_getElem? (i := 3) rfl)))
theorem mX2_send_11_5 : Cond.fieldLink RX2 9 "HissHorn$Houses" "busy" "[Z" ∈ wsX2_send := (List.mem_cons_of_mem _ (List.mem_append_left _ (List.mem_of_getElem? (i := 4) rfl)))
theorem mX2_send_11_6 : Cond.fieldLink RX2 79 "HissHorn$Houses" "settled" "I" ∈ wsX2_send := (List.mem_cons_of_mem _ (List.mem_append_left _ (List.mem_of_getElem? (i := 5) rfl)))
theorem mX2_send_11_7 : Cond.methodLink RX2 82 Lib.Math.min.name ∈ wsX2_send := (List.mem_cons_of_mem _ (List.mem_append_left _ (List.mem_of_getElem? (i := 6) rfl)))
theorem mX2_send_11_8 : Cond.static Lib.Math.min.name ∈ wsX2_send := (List.mem_cons_of_mem _ (List.mem_append_left _ (List.mem_of_getElem? (i := 7) rfl)))
theorem mX2_send_11_9 : Cond.initialized "java/lang/Math" ∈ wsX2_send := (List.mem_cons_of_mem _ (List.mem_append_left _ (List.mem_of_getElem? (i := 8) rfl)))
theorem mX2_send_11_10 : Cond.code Lib.Math.min.name Lib.Math.min.code 2 (some .int) ∈ wsX2_send := (List.mem_cons_of_mem _ (List.mem_append_left _ (List.mem_of_getElem? (i := 9) rfl)))
def fX2_send_11 (x1 : Int32) (x2 : Int32) (x3 : Int32) (u : SX) : Option (Int32 × SX) := (if (u.1 38) < 60 then (gd (inb (u.1 38) 60) (lt (sA u 60 (upd (u.2.1 60) (u.1 38).toNatClampNeg x1)) fun u2 => (gd (inb (u2.1 38) 60) (lt (sA u2 61 (upd (u2.2.1 61) (u2.1 38).toNatClampNeg x2)) fun u5 => (gd (inb (u5.1 38) 60) (lt (sA u5 62 (upd (u5.2.1 62) (u5.1 38).toNatClampNeg x3)) fun u8 => (lt (sI u8 38 ((u8.1 38) + 1)) fun u10 => (gd (inb x3 121) (lt (sA u10 59 (upd (u10.2.1 59) x3.toNatClampNeg (vp_nar .boolean 1))) fun u13 => (lt (sI u13 39 (if x3 < (u13.1 39) then x3 else (u13.1 39))) fun u15 => (some (0, u15)))))))))))) else (some (0, u)))
set_option maxHeartbeats 4000000 in
set_option maxRecDepth 100000 in
theorem wX2_send_11 {p : Program} {l : Launch} {e : Env} {s : State} {m : MethodId} {args : Array Value} {below : List Frame} {meth : Method} {c : Code} {D : va_G} {cy : Nat → ClassId} {ad st : Nat → Nat} (C : Cx RX2 cX2_send 4 none wsX2_send p s m args meth c) (hK : Kx D [(cy 0, .int), (cy 1, .long), (cy 2, .boolean), (cy 3, .byte), (cy 4, .object "HissHorn$Text")] st s) (hJ : JX ad) (x1 : Int32) (x2 : Int32) (x3 : Int32) {u : SX} {r : Int32} {u' : SX} {H : Heap} {locs : List Loc} {ls : Array Slot} (h : fX2_send_11 x1 x2 x3 u = some (r, u')) (hP : va_P D vwCl (VX cy ad st u) H) (hS : va_S (Ax (AX ad) s.heap.size) s.heap H locs) (hl : lv_has ls 4 [(0, .ref (ad 11)), (1, .int x1), (2, .int x2), (3, .int x3)]) : W p l e rmX2_send_11 s m args below meth c H locs 0 0 (MQ below (Qv D (VX cy ad st) (AX ad) s.heap.size r u') args s 0 0 (Ax (AX ad) s.heap.size)) (F0 m 0 ls []) := by
  unfold fX2_send_11 at h
  refine lv_aload_n C.1 C.2.1 dX2_send_0 rfl (lv_at hl 0 rfl) ?_
  refine gX_11_letters C hX2_send_11_X2 hK hP mX2_send_11_1 dX2_send_1 ?_
  refine lv_bipush (v := 60) C.1 C.2.1 dX2_send_4 (by decide) ?_
  refine lv_icmp_lt (tgt := 10) C.1 C.2.1 dX2_send_6 (by decide) (fun c6 => ?_) (fun c6 => ?_)
  · rw [if_pos c6] at h
    refine lv_aload_n C.1 C.2.1 dX2_send_10 rfl (lv_at hl 0 rfl) ?_
    refine gX_11_letterFrom C hX2_send_11_X2 hK hP mX2_send_11_2 dX2_send_11 ?_
    refine lv_aload_n C.1 C.2.1 dX2_send_14 rfl (lv_at hl 0 rfl) ?_
    refine gX_11_letters C hX2_send_11_X2 hK hP mX2_send_11_1 dX2_send_15 ?_
    refine lv_iload_n C.1 C.2.1 dX2_send_18 rfl (lv_at hl 1 rfl) ?_
    obtain ⟨hg1, h⟩ := gd_some h
    refine tX_60 C hK hP hJ hS hg1 dX2_send_19 (fun H locs hP hS => ?_)
    obtain ⟨u2, hu3, h⟩ := lt_some h
    rw [← hu3] at hP
    refine lv_aload_n C.1 C.2.1 dX2_send_20 rfl (lv_at hl 0 rfl) ?_
    refine gX_11_letterTo C hX2_send_11_X2 hK hP mX2_send_11_3 dX2_send_21 ?_
    refine lv_aload_n C.1 C.2.1 dX2_send_24 rfl (lv_at hl 0 rfl) ?_
    refine gX_11_letters C hX2_send_11_X2 hK hP mX2_send_11_1 dX2_send_25 ?_
    refine lv_iload_n C.1 C.2.1 dX2_send_28 rfl (lv_at hl 2 rfl) ?_
    obtain ⟨hg4, h⟩ := gd_some h
    refine tX_61 C hK hP hJ hS hg4 dX2_send_29 (fun H locs hP hS => ?_)
    obtain ⟨u5, hu6, h⟩ := lt_some h
    rw [← hu6] at hP
    refine lv_aload_n C.1 C.2.1 dX2_send_30 rfl (lv_at hl 0 rfl) ?_
    refine gX_11_letterDay C hX2_send_11_X2 hK hP mX2_send_11_4 dX2_send_31 ?_
    refine lv_aload_n C.1 C.2.1 dX2_send_34 rfl (lv_at hl 0 rfl) ?_
    refine gX_11_letters C hX2_send_11_X2 hK hP mX2_send_11_1 dX2_send_35 ?_
    refine lv_iload_n C.1 C.2.1 dX2_send_38 rfl (lv_at hl 3 rfl) ?_
    obtain ⟨hg7, h⟩ := gd_some h
    refine tX_62 C hK hP hJ hS hg7 dX2_send_39 (fun H locs hP hS => ?_)
    obtain ⟨u8, hu9, h⟩ := lt_some h
    rw [← hu9] at hP
    refine lv_aload_n C.1 C.2.1 dX2_send_40 rfl (lv_at hl 0 rfl) ?_
    refine lv_dup C.1 C.2.1 dX2_send_41 rfl ?_
    refine gX_11_letters C hX2_send_11_X2 hK hP mX2_send_11_1 dX2_send_42 ?_
    refine lv_iconst (v := 1) C.1 C.2.1 dX2_send_45 (by decide) ?_
    refine lv_iadd C.1 C.2.1 dX2_send_46 ?_
    refine pX_11_letters C hX2_send_11_X2 hK hP hJ hS mX2_send_11_1 dX2_send_47 (fun H locs hP hS => ?_)
    obtain ⟨u10, hu11, h⟩ := lt_some h
    rw [← hu11] at hP
    refine lv_aload_n C.1 C.2.1 dX2_send_50 rfl (lv_at hl 0 rfl) ?_
    refine gX_11_busy C hX2_send_11_X2 hK hP mX2_send_11_5 dX2_send_51 ?_
    refine lv_iload_n C.1 C.2.1 dX2_send_54 rfl (lv_at hl 3 rfl) ?_
    refine lv_iconst (v := 1) C.1 C.2.1 dX2_send_55 (by decide) ?_
    obtain ⟨hg12, h⟩ := gd_some h
    refine tX_59 C hK hP hJ hS hg12 dX2_send_56 (fun H locs hP hS => ?_)
    obtain ⟨u13, hu14, h⟩ := lt_some h
    rw [← hu14] at hP
    refine lv_aload_n C.1 C.2.1 dX2_send_57 rfl (lv_at hl 0 rfl) ?_
    refine lv_aload_n C.1 C.2.1 dX2_send_58 rfl (lv_at hl 0 rfl) ?_
    refine gX_11_settled C hX2_send_11_X2 hK hP mX2_send_11_6 dX2_send_59 ?_
    refine lv_iload_n C.1 C.2.1 dX2_send_62 rfl (lv_at hl 3 rfl) ?_
    refine va_mmin C.1 C.2.1 (C.2.2.1.trans hl.1.symm) C.2.2.2.2.1 (C.2.2.2.2.2.1 _ mX2_send_11_7) (C.2.2.2.2.2.1 _ mX2_send_11_8) (C.2.2.2.2.2.1 _ mX2_send_11_9) (C.2.2.2.2.2.1 _ mX2_send_11_10) (Nat.le_of_ble_eq_true rfl) (Nat.le_of_ble_eq_true rfl) (Nat.zero_le _) (Nat.zero_le _) dX2_send_63 ?_
    refine pX_11_settled C hX2_send_11_X2 hK hP hJ hS mX2_send_11_6 dX2_send_66 (fun H locs hP hS => ?_)
    obtain ⟨u15, hu16, h⟩ := lt_some h
    rw [← hu16] at hP
    cases h
    exact rt_v C hP hS dX2_send_69
  · rw [if_neg c6] at h
    cases h
    exact rt_v C hP hS dX2_send_9
theorem metX2_send_11 (l : Launch) (D : va_G) (cy : Nat → ClassId) (ad st : Nat → Nat) (hJ : JX ad) (sz : Nat) (x1 : Int32) (x2 : Int32) (x3 : Int32) {u : SX} {r : Int32} {u' : SX} (h : fX2_send_11 x1 x2 x3 u = some (r, u')) : Met l yX2_send wsX2_send rmX2_send_11 (va_Pc [.ref (ad 11), .int x1, .int x2, .int x3] (Px D [(cy 0, .int), (cy 1, .long), (cy 2, .boolean), (cy 3, .byte), (cy 4, .object "HissHorn$Text")] st (VX cy ad st) sz u)) (Qv D (VX cy ad st) (AX ad) sz r u') 0 0 (Ax (AX ad) sz) := by
  refine Met.ofW (cc := cX2_send) (maxL := 4) (ret := none) (by decide) rfl ?_
  intro p e s m args below meth c s₁ B hml hv
  obtain ⟨rfl, hsz, hP, hK⟩ := hv
  subst hsz
  have C : Cx RX2 cX2_send 4 none wsX2_send p s m _ meth c := ⟨B.exec, B.bytes, hml, B.returns, findClass_of_methodNamed B.named, atoms_spec (ws := wsX2_send) B.pre, B.notSynchronized⟩
  have hl := lv_entry ([.ref (ad 11), .int x1, .int x2, .int x3]) (n := 4) (Nat.le_of_ble_eq_true rfl)
  rw [lg_entry_eq]
  exact wX2_send_11 C hK hJ x1 x2 x3 h hP va_S.rf hl

theorem dX11_letter_0 : decode cX11_letter 0 = .ok (.aload_n 0, 1) := by decide +kernel
theorem dX11_letter_1 : decode cX11_letter 1 = .ok (.getfield 90, 3) := by decide +kernel
theorem dX11_letter_4 : decode cX11_letter 4 = .ok (.iload_n 1, 1) := by decide +kernel
set_option maxRecDepth 20000 in
theorem ggX11_letter_X2_has : GoodIn wsX11_letter wsX2_has := goodIn_r _ [8, 9, 37, 38, 39, 40, 41, 42, 43, 44, 45, 46, 47, 48, 49, 50, 51, 52, 53, 54] (by decide +kernel) (by decide +kernel)
set_option maxRecDepth 20000 in
theorem gX11_letter_X2_has : GoodIn wsX11_letter (wsV RX11 323 RX2 yX2_has wsX2_has) := goodIn_app (goodIn_of _ (by decide +kernel)) ggX11_letter_X2_has
theorem dX11_letter_5 : decode cX11_letter 5 = .ok (.invokevirtual 323, 3) := by decide +kernel
theorem dX11_letter_8 : decode cX11_letter 8 = .ok (.ifCond .eq 31, 3) := by decide +kernel
theorem dX11_letter_39 : decode cX11_letter 39 = .ok (.iconst 0, 1) := by decide +kernel
theorem dX11_letter_40 : decode cX11_letter 40 = .ok (.ireturn, 1) := by decide +kernel
theorem dX11_letter_11 : decode cX11_letter 11 = .ok (.aload_n 0, 1) := by decide +kernel
theorem dX11_letter_12 : decode cX11_letter 12 = .ok (.getfield 90, 3) := by decide +kernel
theorem dX11_letter_15 : decode cX11_letter 15 = .ok (.iload_n 2, 1) := by decide +kernel
theorem dX11_letter_16 : decode cX11_letter 16 = .ok (.invokevirtual 323, 3) := by decide +kernel
theorem dX11_letter_19 : decode cX11_letter 19 = .ok (.ifCond .eq 20, 3) := by decide +kernel
theorem dX11_letter_22 : decode cX11_letter 22 = .ok (.iload_n 1, 1) := by decide +kernel
theorem dX11_letter_23 : decode cX11_letter 23 = .ok (.iload_n 2, 1) := by decide +kernel
theorem dX11_letter_24 : decode cX11_letter 24 = .ok (.if_icmp .eq 15, 3) := by decide +kernel
theorem dX11_letter_27 : decode cX11_letter 27 = .ok (.aload_n 0, 1) := by decide +kernel
theorem dX11_letter_28 : decode cX11_letter 28 = .ok (.getfield 90, 3) := by decide +kernel
theorem dX11_letter_31 : decode cX11_letter 31 = .ok (.getfield 340, 3) := by decide +kernel
theorem dX11_letter_34 : decode cX11_letter 34 = .ok (.bipush 60, 2) := by decide +kernel
theorem dX11_letter_36 : decode cX11_letter 36 = .ok (.if_icmp .lt 5, 3) := by decide +kernel
theorem dX11_letter_41 : decode cX11_letter 41 = .ok (.aload_n 0, 1) := by decide +kernel
theorem dX11_letter_42 : decode cX11_letter 42 = .ok (.getfield 90, 3) := by decide +kernel
theorem dX11_letter_45 : decode cX11_letter 45 = .ok (.iload_n 1, 1) := by decide +kernel
theorem dX11_letter_46 : decode cX11_letter 46 = .ok (.iload_n 2, 1) := by decide +kernel
theorem dX11_letter_47 : decode cX11_letter 47 = .ok (.aload_n 0, 1) := by decide +kernel
theorem dX11_letter_48 : decode cX11_letter 48 = .ok (.getfield 103, 3) := by decide +kernel
set_option maxRecDepth 20000 in
theorem ggX11_letter_X2_send : GoodIn wsX11_letter wsX2_send := goodIn_r _ [13, 14, 15, 16, 17, 18, 19, 20, 21, 22, 23, 37, 38, 39, 40, 41, 42, 43, 44, 45, 46, 47, 48, 49, 50, 51, 52, 53, 54] (by decide +kernel) (by decide +kernel)
set_option maxRecDepth 20000 in
theorem gX11_letter_X2_send : GoodIn wsX11_letter (wsV RX11 342 RX2 yX2_send wsX2_send) := goodIn_app (goodIn_of _ (by decide +kernel)) ggX11_letter_X2_send
theorem dX11_letter_51 : decode cX11_letter 51 = .ok (.invokevirtual 342, 3) := by decide +kernel
theorem dX11_letter_54 : decode cX11_letter 54 = .ok (.iconst 1, 1) := by decide +kernel
theorem dX11_letter_55 : decode cX11_letter 55 = .ok (.ireturn, 1) := by decide +kernel
/-- HissHorn.letter(II)Z of cell 0 -/
def rmX11_letter_0 : Room := { frames := 2, cells := 0, slots := 0, locals := 37 }
theorem hX11_letter_0_X11 : ∀ w ∈ u_ws RX11 TX11 13, w ∈ wsX11_letter := fun w h => (List.mem_cons_of_mem _ (List.mem_append_left _ (List.mem_append_right _ h)))
theorem mX11_letter_0_1 : Cond.fieldLink RX11 90 "HissHorn" "houses" "LHissHorn$Houses;" ∈ wsX11_letter := (List.mem_cons_of_mem _ (List.mem_append_left _ (List.mem_append_left _ (List.mem_of_getElem? (i := 0) rfl))))
theorem hX11_letter_0_X2 : ∀ w ∈ u_ws RX2 TX2 18, w ∈ wsX11_letter := fun w h => (List.mem_cons_of_mem _ (List.mem_append_right _ h))
theorem mX11_letter_0_3 : Cond.fieldLink RX11 340 "HissHorn$Houses" "letters" "I" ∈ wsX11_letter := (List.mem_cons_of_mem _ (List.mem_append_left _ (List.mem_append_left _ (List.mem_of_getElem? (i := 1) rfl))))
theorem mX11_letter_0_4 : Cond.fieldLink RX11 103 "HissHorn" "now" "I" ∈ wsX11_letter := (List.mem_cons_of_mem _ (List.mem_append_left _ (List.mem_append_left _ (List.mem_of_getElem? (i := 2) rfl))))
def fX11_letter_0 (x1 : Int32) (x2 : Int32) (u : SX) : Option (Int32 × SX) := ((fX2_has_11 x1 u).bind fun q => match q with | (r1, u2) => (if r1 = 0 then (gd (isB 0) (some (0, u2))) else ((fX2_has_11 x2 u2).bind fun q => match q with | (r5, u6) => (if r5 = 0 then (gd (isB 0) (some (0, u6))) else (if x1 = x2 then (gd (isB 0) (some (0, u6))) else (if (u6.1 38) < 60 then ((fX2_send_11 x1 x2 (u6.1 0) u6).bind fun q => match q with | (r10, u11) => (gd (isB 1) (some (1, u11)))) else (gd (isB 0) (some (0, u6)))))))))
set_option maxHeartbeats 4000000 in
set_option maxRecDepth 100000 in
theorem wX11_letter_0 {p : Program} {l : Launch} {e : Env} {s : State} {m : MethodId} {args : Array Value} {below : List Frame} {meth : Method} {c : Code} {D : va_G} {cy : Nat → ClassId} {ad st : Nat → Nat} (C : Cx RX11 cX11_letter 3 (some .boolean) wsX11_letter p s m args meth c) (hK : Kx D [(cy 0, .int), (cy 1, .long), (cy 2, .boolean), (cy 3, .byte), (cy 4, .object "HissHorn$Text")] st s) (hJ : JX ad) (x1 : Int32) (x2 : Int32) {u : SX} {r : Int32} {u' : SX} {H : Heap} {locs : List Loc} {ls : Array Slot} (h : fX11_letter_0 x1 x2 u = some (r, u')) (hP : va_P D vwCl (VX cy ad st u) H) (hS : va_S (Ax (AX ad) s.heap.size) s.heap H locs) (hl : lv_has ls 3 [(0, .ref (ad 0)), (1, .int x1), (2, .int x2)]) : W p l e rmX11_letter_0 s m args below meth c H locs 0 0 (MQ below (Qi D (VX cy ad st) (AX ad) s.heap.size r u') args s 0 0 (Ax (AX ad) s.heap.size)) (F0 m 0 ls []) := by
  unfold fX11_letter_0 at h
  refine lv_aload_n C.1 C.2.1 dX11_letter_0 rfl (lv_at hl 0 rfl) ?_
  refine gX_0_houses C hX11_letter_0_X11 hK hP mX11_letter_0_1 dX11_letter_1 ?_
  refine lv_iload_n C.1 C.2.1 dX11_letter_4 rfl (lv_at hl 1 rfl) ?_
  obtain ⟨⟨r1, u2⟩, hc3, h⟩ := bd_some h
  try dsimp only at h
  refine cg_i (As := [.int x1]) (rest := []) C hK hP hS (metX2_has_11 l D cy ad st hJ _ x1 hc3) (cwV 1 C.2.2.2.2.2.1 gX11_letter_X2_has rfl rfl rfl (by decide +kernel) ⟨(Nat.le_of_ble_eq_true rfl), (Nat.le_of_ble_eq_true rfl)⟩) 11 2 rfl rfl rfl hl.1 rfl (Nat.le_of_ble_eq_true rfl) dX11_letter_5 ⟨Nat.zero_le _, Nat.zero_le _⟩ (fun H locs hP hS => ?_)
  refine lv_if_eq (tgt := 39) C.1 C.2.1 dX11_letter_8 (by decide) (fun c8 => ?_) (fun c8 => ?_)
  · rw [if_pos c8] at h
    refine lv_iconst (v := 0) C.1 C.2.1 dX11_letter_39 (by decide) ?_
    obtain ⟨hg4, h⟩ := gd_some h
    cases h
    exact rt_z hg4 C hP hS dX11_letter_40
  · rw [if_neg c8] at h
    refine lv_aload_n C.1 C.2.1 dX11_letter_11 rfl (lv_at hl 0 rfl) ?_
    refine gX_0_houses C hX11_letter_0_X11 hK hP mX11_letter_0_1 dX11_letter_12 ?_
    refine lv_iload_n C.1 C.2.1 dX11_letter_15 rfl (lv_at hl 2 rfl) ?_
    obtain ⟨⟨r5, u6⟩, hc7, h⟩ := bd_some h
    try dsimp only at h
    refine cg_i (As := [.int x2]) (rest := []) C hK hP hS (metX2_has_11 l D cy ad st hJ _ x2 hc7) (cwV 1 C.2.2.2.2.2.1 gX11_letter_X2_has rfl rfl rfl (by decide +kernel) ⟨(Nat.le_of_ble_eq_true rfl), (Nat.le_of_ble_eq_true rfl)⟩) 11 2 rfl rfl rfl hl.1 rfl (Nat.le_of_ble_eq_true rfl) dX11_letter_16 ⟨Nat.zero_le _, Nat.zero_le _⟩ (fun H locs hP hS => ?_)
    refine lv_if_eq (tgt := 39) C.1 C.2.1 dX11_letter_19 (by decide) (fun c19 => ?_) (fun c19 => ?_)
    · rw [if_pos c19] at h
      refine lv_iconst (v := 0) C.1 C.2.1 dX11_letter_39 (by decide) ?_
      obtain ⟨hg8, h⟩ := gd_some h
      cases h
      exact rt_z hg8 C hP hS dX11_letter_40
    · rw [if_neg c19] at h
      refine lv_iload_n C.1 C.2.1 dX11_letter_22 rfl (lv_at hl 1 rfl) ?_
      refine lv_iload_n C.1 C.2.1 dX11_letter_23 rfl (lv_at hl 2 rfl) ?_
      refine lv_icmp_eq (tgt := 39) C.1 C.2.1 dX11_letter_24 (by decide) (fun c24 => ?_) (fun c24 => ?_)
      · rw [if_pos c24] at h
        refine lv_iconst (v := 0) C.1 C.2.1 dX11_letter_39 (by decide) ?_
        obtain ⟨hg9, h⟩ := gd_some h
        cases h
        exact rt_z hg9 C hP hS dX11_letter_40
      · rw [if_neg c24] at h
        refine lv_aload_n C.1 C.2.1 dX11_letter_27 rfl (lv_at hl 0 rfl) ?_
        refine gX_0_houses C hX11_letter_0_X11 hK hP mX11_letter_0_1 dX11_letter_28 ?_
        refine gX_11_letters C hX11_letter_0_X2 hK hP mX11_letter_0_3 dX11_letter_31 ?_
        refine lv_bipush (v := 60) C.1 C.2.1 dX11_letter_34 (by decide) ?_
        refine lv_icmp_lt (tgt := 41) C.1 C.2.1 dX11_letter_36 (by decide) (fun c36 => ?_) (fun c36 => ?_)
        · rw [if_pos c36] at h
          refine lv_aload_n C.1 C.2.1 dX11_letter_41 rfl (lv_at hl 0 rfl) ?_
          refine gX_0_houses C hX11_letter_0_X11 hK hP mX11_letter_0_1 dX11_letter_42 ?_
          refine lv_iload_n C.1 C.2.1 dX11_letter_45 rfl (lv_at hl 1 rfl) ?_
          refine lv_iload_n C.1 C.2.1 dX11_letter_46 rfl (lv_at hl 2 rfl) ?_
          refine lv_aload_n C.1 C.2.1 dX11_letter_47 rfl (lv_at hl 0 rfl) ?_
          refine gX_0_now C hX11_letter_0_X11 hK hP mX11_letter_0_4 dX11_letter_48 ?_
          obtain ⟨⟨r10, u11⟩, hc12, h⟩ := bd_some h
          try dsimp only at h
          refine cg_v (As := [.int x1, .int x2, .int (u6.1 0)]) (rest := []) C hK hP hS (metX2_send_11 l D cy ad st hJ _ x1 x2 (u6.1 0) hc12) (cwV 3 C.2.2.2.2.2.1 gX11_letter_X2_send rfl rfl rfl (by decide +kernel) ⟨(Nat.le_of_ble_eq_true rfl), (Nat.le_of_ble_eq_true rfl)⟩) 11 2 rfl rfl rfl hl.1 rfl (Nat.le_of_ble_eq_true rfl) dX11_letter_51 ⟨Nat.zero_le _, Nat.zero_le _⟩ (fun H locs hP hS => ?_)
          refine lv_iconst (v := 1) C.1 C.2.1 dX11_letter_54 (by decide) ?_
          obtain ⟨hg13, h⟩ := gd_some h
          cases h
          exact rt_z hg13 C hP hS dX11_letter_55
        · rw [if_neg c36] at h
          refine lv_iconst (v := 0) C.1 C.2.1 dX11_letter_39 (by decide) ?_
          obtain ⟨hg14, h⟩ := gd_some h
          cases h
          exact rt_z hg14 C hP hS dX11_letter_40
theorem metX11_letter_0 (l : Launch) (D : va_G) (cy : Nat → ClassId) (ad st : Nat → Nat) (hJ : JX ad) (sz : Nat) (x1 : Int32) (x2 : Int32) {u : SX} {r : Int32} {u' : SX} (h : fX11_letter_0 x1 x2 u = some (r, u')) : Met l yX11_letter wsX11_letter rmX11_letter_0 (va_Pc [.ref (ad 0), .int x1, .int x2] (Px D [(cy 0, .int), (cy 1, .long), (cy 2, .boolean), (cy 3, .byte), (cy 4, .object "HissHorn$Text")] st (VX cy ad st) sz u)) (Qi D (VX cy ad st) (AX ad) sz r u') 0 0 (Ax (AX ad) sz) := by
  refine Met.ofW (cc := cX11_letter) (maxL := 3) (ret := (some .boolean)) (by decide) rfl ?_
  intro p e s m args below meth c s₁ B hml hv
  obtain ⟨rfl, hsz, hP, hK⟩ := hv
  subst hsz
  have C : Cx RX11 cX11_letter 3 (some .boolean) wsX11_letter p s m _ meth c := ⟨B.exec, B.bytes, hml, B.returns, findClass_of_methodNamed B.named, atoms_spec (ws := wsX11_letter) B.pre, B.notSynchronized⟩
  have hl := lv_entry ([.ref (ad 0), .int x1, .int x2]) (n := 3) (Nat.le_of_ble_eq_true rfl)
  rw [lg_entry_eq]
  exact wX11_letter_0 C hK hJ x1 x2 h hP va_S.rf hl

theorem dX2_knownBy_0 : decode cX2_knownBy 0 = .ok (.iload_n 2, 1) := by decide +kernel
theorem dX2_knownBy_1 : decode cX2_knownBy 1 = .ok (.ifCond .ge 7, 3) := by decide +kernel
theorem dX2_knownBy_8 : decode cX2_knownBy 8 = .ok (.aload_n 0, 1) := by decide +kernel
theorem dX2_knownBy_9 : decode cX2_knownBy 9 = .ok (.getfield 47, 3) := by decide +kernel
theorem dX2_knownBy_12 : decode cX2_knownBy 12 = .ok (.iload_n 2, 1) := by decide +kernel
theorem dX2_knownBy_13 : decode cX2_knownBy 13 = .ok (.bipush 8, 2) := by decide +kernel
theorem dX2_knownBy_15 : decode cX2_knownBy 15 = .ok (.imul, 1) := by decide +kernel
theorem dX2_knownBy_16 : decode cX2_knownBy 16 = .ok (.iload_n 1, 1) := by decide +kernel
theorem dX2_knownBy_17 : decode cX2_knownBy 17 = .ok (.iadd, 1) := by decide +kernel
theorem dX2_knownBy_18 : decode cX2_knownBy 18 = .ok (.laload, 1) := by decide +kernel
theorem dX2_knownBy_19 : decode cX2_knownBy 19 = .ok (.lreturn, 1) := by decide +kernel
theorem dX2_knownBy_4 : decode cX2_knownBy 4 = .ok (.lconst 0, 1) := by decide +kernel
theorem dX2_knownBy_5 : decode cX2_knownBy 5 = .ok (.goto 14, 3) := by decide +kernel
/-- HissHorn$Houses.knownBy(II)J of cell 11 -/
def rmX2_knownBy_11 : Room := { frames := 0, cells := 0, slots := 0, locals := 0 }
theorem hX2_knownBy_11_X2 : ∀ w ∈ u_ws RX2 TX2 18, w ∈ wsX2_knownBy := fun w h => (List.mem_cons_of_mem _ (List.mem_append_right _ h))
theorem mX2_knownBy_11_1 : Cond.fieldLink RX2 47 "HissHorn$Houses" "known" "[J" ∈ wsX2_knownBy := (List.mem_cons_of_mem _ (List.mem_append_left _ (List.mem_of_getElem? (i := 0) rfl)))
def fX2_knownBy_11 (x1 : Int32) (x2 : Int32) (u : SX) : Option (Int64 × SX) := (if 0 ≤ x2 then (gd (inb ((x2 * 8) + x1) 968) (some (u.2.2.2 70 ((x2 * 8) + x1).toNatClampNeg, u))) else (some (0, u)))
set_option maxHeartbeats 4000000 in
set_option maxRecDepth 100000 in
theorem wX2_knownBy_11 {p : Program} {l : Launch} {e : Env} {s : State} {m : MethodId} {args : Array Value} {below : List Frame} {meth : Method} {c : Code} {D : va_G} {cy : Nat → ClassId} {ad st : Nat → Nat} (C : Cx RX2 cX2_knownBy 3 (some .long) wsX2_knownBy p s m args meth c) (hK : Kx D [(cy 0, .int), (cy 1, .long), (cy 2, .boolean), (cy 3, .byte), (cy 4, .object "HissHorn$Text")] st s) (hJ : JX ad) (x1 : Int32) (x2 : Int32) {u : SX} {r : Int64} {u' : SX} {H : Heap} {locs : List Loc} {ls : Array Slot} (h : fX2_knownBy_11 x1 x2 u = some (r, u')) (hP : va_P D vwCl (VX cy ad st u) H) (hS : va_S (Ax (AX ad) s.heap.size) s.heap H locs) (hl : lv_has ls 3 [(0, .ref (ad 11)), (1, .int x1), (2, .int x2)]) : W p l e rmX2_knownBy_11 s m args below meth c H locs 0 0 (MQ below (Ql D (VX cy ad st) (AX ad) s.heap.size r u') args s 0 0 (Ax (AX ad) s.heap.size)) (F0 m 0 ls []) := by
  unfold fX2_knownBy_11 at h
  refine lv_iload_n C.1 C.2.1 dX2_knownBy_0 rfl (lv_at hl 2 rfl) ?_
  refine lv_if_ge (tgt := 8) C.1 C.2.1 dX2_knownBy_1 (by decide) (fun c1 => ?_) (fun c1 => ?_)
  · rw [if_pos c1] at h
    refine lv_aload_n C.1 C.2.1 dX2_knownBy_8 rfl (lv_at hl 0 rfl) ?_
    refine gX_11_known C hX2_knownBy_11_X2 hK hP mX2_knownBy_11_1 dX2_knownBy_9 ?_
    refine lv_iload_n C.1 C.2.1 dX2_knownBy_12 rfl (lv_at hl 2 rfl) ?_
    refine lv_bipush (v := 8) C.1 C.2.1 dX2_knownBy_13 (by decide) ?_
    refine lv_imul C.1 C.2.1 dX2_knownBy_15 ?_
    refine lv_iload_n C.1 C.2.1 dX2_knownBy_16 rfl (lv_at hl 1 rfl) ?_
    refine lv_iadd C.1 C.2.1 dX2_knownBy_17 ?_
    obtain ⟨hg1, h⟩ := gd_some h
    refine lX_70 C hK hP hg1 dX2_knownBy_18 ?_
    cases h
    exact rt_l C hP hS dX2_knownBy_19
  · rw [if_neg c1] at h
    refine lv_lconst (v := 0) C.1 C.2.1 dX2_knownBy_4 (by decide) ?_
    refine lv_goto (tgt := 19) C.1 C.2.1 dX2_knownBy_5 (by decide) ?_
    cases h
    exact rt_l C hP hS dX2_knownBy_19
theorem metX2_knownBy_11 (l : Launch) (D : va_G) (cy : Nat → ClassId) (ad st : Nat → Nat) (hJ : JX ad) (sz : Nat) (x1 : Int32) (x2 : Int32) {u : SX} {r : Int64} {u' : SX} (h : fX2_knownBy_11 x1 x2 u = some (r, u')) : Met l yX2_knownBy wsX2_knownBy rmX2_knownBy_11 (va_Pc [.ref (ad 11), .int x1, .int x2] (Px D [(cy 0, .int), (cy 1, .long), (cy 2, .boolean), (cy 3, .byte), (cy 4, .object "HissHorn$Text")] st (VX cy ad st) sz u)) (Ql D (VX cy ad st) (AX ad) sz r u') 0 0 (Ax (AX ad) sz) := by
  refine Met.ofW (cc := cX2_knownBy) (maxL := 3) (ret := (some .long)) (by decide) rfl ?_
  intro p e s m args below meth c s₁ B hml hv
  obtain ⟨rfl, hsz, hP, hK⟩ := hv
  subst hsz
  have C : Cx RX2 cX2_knownBy 3 (some .long) wsX2_knownBy p s m _ meth c := ⟨B.exec, B.bytes, hml, B.returns, findClass_of_methodNamed B.named, atoms_spec (ws := wsX2_knownBy) B.pre, B.notSynchronized⟩
  have hl := lv_entry ([.ref (ad 11), .int x1, .int x2]) (n := 3) (Nat.le_of_ble_eq_true rfl)
  rw [lg_entry_eq]
  exact wX2_knownBy_11 C hK hJ x1 x2 h hP va_S.rf hl

theorem dX2_toldBy_0 : decode cX2_toldBy 0 = .ok (.aload_n 0, 1) := by decide +kernel
theorem dX2_toldBy_1 : decode cX2_toldBy 1 = .ok (.getfield 44, 3) := by decide +kernel
theorem dX2_toldBy_4 : decode cX2_toldBy 4 = .ok (.iload_n 2, 1) := by decide +kernel
theorem dX2_toldBy_5 : decode cX2_toldBy 5 = .ok (.bipush 8, 2) := by decide +kernel
theorem dX2_toldBy_7 : decode cX2_toldBy 7 = .ok (.imul, 1) := by decide +kernel
theorem dX2_toldBy_8 : decode cX2_toldBy 8 = .ok (.iload_n 1, 1) := by decide +kernel
theorem dX2_toldBy_9 : decode cX2_toldBy 9 = .ok (.iadd, 1) := by decide +kernel
theorem dX2_toldBy_10 : decode cX2_toldBy 10 = .ok (.laload, 1) := by decide +kernel
theorem dX2_toldBy_11 : decode cX2_toldBy 11 = .ok (.lreturn, 1) := by decide +kernel
/-- HissHorn$Houses.toldBy(II)J of cell 11 -/
def rmX2_toldBy_11 : Room := { frames := 0, cells := 0, slots := 0, locals := 0 }
theorem hX2_toldBy_11_X2 : ∀ w ∈ u_ws RX2 TX2 18, w ∈ wsX2_toldBy := fun w h => (List.mem_cons_of_mem _ (List.mem_append_right _ h))
theorem mX2_toldBy_11_1 : Cond.fieldLink RX2 44 "HissHorn$Houses" "told" "[J" ∈ wsX2_toldBy := (List.mem_cons_of_mem _ (List.mem_append_left _ (List.mem_of_getElem? (i := 0) rfl)))
def fX2_toldBy_11 (x1 : Int32) (x2 : Int32) (u : SX) : Option (Int64 × SX) := (gd (inb ((x2 * 8) + x1) 968) (some (u.2.2.2 69 ((x2 * 8) + x1).toNatClampNeg, u)))
set_option maxHeartbeats 4000000 in
set_option maxRecDepth 100000 in
theorem wX2_toldBy_11 {p : Program} {l : Launch} {e : Env} {s : State} {m : MethodId} {args : Array Value} {below : List Frame} {meth : Method} {c : Code} {D : va_G} {cy : Nat → ClassId} {ad st : Nat → Nat} (C : Cx RX2 cX2_toldBy 3 (some .long) wsX2_toldBy p s m args meth c) (hK : Kx D [(cy 0, .int), (cy 1, .long), (cy 2, .boolean), (cy 3, .byte), (cy 4, .object "HissHorn$Text")] st s) (hJ : JX ad) (x1 : Int32) (x2 : Int32) {u : SX} {r : Int64} {u' : SX} {H : Heap} {locs : List Loc} {ls : Array Slot} (h : fX2_toldBy_11 x1 x2 u = some (r, u')) (hP : va_P D vwCl (VX cy ad st u) H) (hS : va_S (Ax (AX ad) s.heap.size) s.heap H locs) (hl : lv_has ls 3 [(0, .ref (ad 11)), (1, .int x1), (2, .int x2)]) : W p l e rmX2_toldBy_11 s m args below meth c H locs 0 0 (MQ below (Ql D (VX cy ad st) (AX ad) s.heap.size r u') args s 0 0 (Ax (AX ad) s.heap.size)) (F0 m 0 ls []) := by
  unfold fX2_toldBy_11 at h
  refine lv_aload_n C.1 C.2.1 dX2_toldBy_0 rfl (lv_at hl 0 rfl) ?_
  refine gX_11_told C hX2_toldBy_11_X2 hK hP mX2_toldBy_11_1 dX2_toldBy_1 ?_
  refine lv_iload_n C.1 C.2.1 dX2_toldBy_4 rfl (lv_at hl 2 rfl) ?_
  refine lv_bipush (v := 8) C.1 C.2.1 dX2_toldBy_5 (by decide) ?_
  refine lv_imul C.1 C.2.1 dX2_toldBy_7 ?_
  refine lv_iload_n C.1 C.2.1 dX2_toldBy_8 rfl (lv_at hl 1 rfl) ?_
  refine lv_iadd C.1 C.2.1 dX2_toldBy_9 ?_
  obtain ⟨hg1, h⟩ := gd_some h
  refine lX_69 C hK hP hg1 dX2_toldBy_10 ?_
  cases h
  exact rt_l C hP hS dX2_toldBy_11
theorem metX2_toldBy_11 (l : Launch) (D : va_G) (cy : Nat → ClassId) (ad st : Nat → Nat) (hJ : JX ad) (sz : Nat) (x1 : Int32) (x2 : Int32) {u : SX} {r : Int64} {u' : SX} (h : fX2_toldBy_11 x1 x2 u = some (r, u')) : Met l yX2_toldBy wsX2_toldBy rmX2_toldBy_11 (va_Pc [.ref (ad 11), .int x1, .int x2] (Px D [(cy 0, .int), (cy 1, .long), (cy 2, .boolean), (cy 3, .byte), (cy 4, .object "HissHorn$Text")] st (VX cy ad st) sz u)) (Ql D (VX cy ad st) (AX ad) sz r u') 0 0 (Ax (AX ad) sz) := by
  refine Met.ofW (cc := cX2_toldBy) (maxL := 3) (ret := (some .long)) (by decide) rfl ?_
  intro p e s m args below meth c s₁ B hml hv
  obtain ⟨rfl, hsz, hP, hK⟩ := hv
  subst hsz
  have C : Cx RX2 cX2_toldBy 3 (some .long) wsX2_toldBy p s m _ meth c := ⟨B.exec, B.bytes, hml, B.returns, findClass_of_methodNamed B.named, atoms_spec (ws := wsX2_toldBy) B.pre, B.notSynchronized⟩
  have hl := lv_entry ([.ref (ad 11), .int x1, .int x2]) (n := 3) (Nat.le_of_ble_eq_true rfl)
  rw [lg_entry_eq]
  exact wX2_toldBy_11 C hK hJ x1 x2 h hP va_S.rf hl

theorem dX2_deliver_52 : decode cX2_deliver 52 = .ok (.iinc 2 1, 3) := by decide +kernel
theorem dX2_deliver_55 : decode cX2_deliver 55 = .ok (.goto (-53), 3) := by decide +kernel
theorem dX2_deliver_2 : decode cX2_deliver 2 = .ok (.iload_n 2, 1) := by decide +kernel
theorem dX2_deliver_3 : decode cX2_deliver 3 = .ok (.aload_n 0, 1) := by decide +kernel
theorem dX2_deliver_4 : decode cX2_deliver 4 = .ok (.getfield 88, 3) := by decide +kernel
theorem dX2_deliver_7 : decode cX2_deliver 7 = .ok (.if_icmp .ge 51, 3) := by decide +kernel
theorem dX2_deliver_58 : decode cX2_deliver 58 = .ok (.return_, 1) := by decide +kernel
theorem dX2_deliver_10 : decode cX2_deliver 10 = .ok (.aload_n 0, 1) := by decide +kernel
theorem dX2_deliver_11 : decode cX2_deliver 11 = .ok (.getfield 22, 3) := by decide +kernel
theorem dX2_deliver_14 : decode cX2_deliver 14 = .ok (.iload_n 2, 1) := by decide +kernel
theorem dX2_deliver_15 : decode cX2_deliver 15 = .ok (.iaload, 1) := by decide +kernel
theorem dX2_deliver_16 : decode cX2_deliver 16 = .ok (.iload_n 1, 1) := by decide +kernel
theorem dX2_deliver_17 : decode cX2_deliver 17 = .ok (.if_icmp .ne 35, 3) := by decide +kernel
theorem dX2_deliver_20 : decode cX2_deliver 20 = .ok (.aload_n 0, 1) := by decide +kernel
theorem dX2_deliver_21 : decode cX2_deliver 21 = .ok (.getfield 47, 3) := by decide +kernel
theorem dX2_deliver_24 : decode cX2_deliver 24 = .ok (.iload_n 1, 1) := by decide +kernel
theorem dX2_deliver_25 : decode cX2_deliver 25 = .ok (.bipush 8, 2) := by decide +kernel
theorem dX2_deliver_27 : decode cX2_deliver 27 = .ok (.imul, 1) := by decide +kernel
theorem dX2_deliver_28 : decode cX2_deliver 28 = .ok (.aload_n 0, 1) := by decide +kernel
theorem dX2_deliver_29 : decode cX2_deliver 29 = .ok (.getfield 19, 3) := by decide +kernel
theorem dX2_deliver_32 : decode cX2_deliver 32 = .ok (.iload_n 2, 1) := by decide +kernel
theorem dX2_deliver_33 : decode cX2_deliver 33 = .ok (.iaload, 1) := by decide +kernel
theorem dX2_deliver_34 : decode cX2_deliver 34 = .ok (.iadd, 1) := by decide +kernel
theorem dX2_deliver_35 : decode cX2_deliver 35 = .ok (.dup2, 1) := by decide +kernel
theorem dX2_deliver_36 : decode cX2_deliver 36 = .ok (.laload, 1) := by decide +kernel
theorem dX2_deliver_37 : decode cX2_deliver 37 = .ok (.aload_n 0, 1) := by decide +kernel
theorem dX2_deliver_38 : decode cX2_deliver 38 = .ok (.aload_n 0, 1) := by decide +kernel
theorem dX2_deliver_39 : decode cX2_deliver 39 = .ok (.getfield 15, 3) := by decide +kernel
theorem dX2_deliver_42 : decode cX2_deliver 42 = .ok (.iload_n 2, 1) := by decide +kernel
theorem dX2_deliver_43 : decode cX2_deliver 43 = .ok (.iaload, 1) := by decide +kernel
theorem dX2_deliver_44 : decode cX2_deliver 44 = .ok (.iload_n 1, 1) := by decide +kernel
theorem dX2_deliver_45 : decode cX2_deliver 45 = .ok (.iconst 1, 1) := by decide +kernel
theorem dX2_deliver_46 : decode cX2_deliver 46 = .ok (.isub, 1) := by decide +kernel
set_option maxRecDepth 20000 in
theorem ggX2_deliver_X2_knownBy : GoodIn wsX2_deliver wsX2_knownBy := goodIn_r _ [10, 3, 11, 12, 13, 14, 15, 16, 17, 18, 19, 20, 21, 22, 23, 24, 25, 26, 27, 28] (by decide +kernel) (by decide +kernel)
set_option maxRecDepth 20000 in
theorem gX2_deliver_X2_knownBy : GoodIn wsX2_deliver (wsV RX2 91 RX2 yX2_knownBy wsX2_knownBy) := goodIn_app (goodIn_of _ (by decide +kernel)) ggX2_deliver_X2_knownBy
theorem dX2_deliver_47 : decode cX2_deliver 47 = .ok (.invokevirtual 91, 3) := by decide +kernel
theorem dX2_deliver_50 : decode cX2_deliver 50 = .ok (.lor, 1) := by decide +kernel
theorem dX2_deliver_51 : decode cX2_deliver 51 = .ok (.lastore, 1) := by decide +kernel
theorem dX2_deliver_0 : decode cX2_deliver 0 = .ok (.iconst 0, 1) := by decide +kernel
theorem dX2_deliver_1 : decode cX2_deliver 1 = .ok (.istore_n 2, 1) := by decide +kernel
/-- HissHorn$Houses.deliver(I)V of cell 11 -/
def rmX2_deliver_11 : Room := { frames := 1, cells := 0, slots := 0, locals := 22 }
theorem hX2_deliver_11_X2 : ∀ w ∈ u_ws RX2 TX2 18, w ∈ wsX2_deliver := fun w h => (List.mem_cons_of_mem _ (List.mem_append_right _ h))
theorem mX2_deliver_11_1 : Cond.fieldLink RX2 88 "HissHorn$Houses" "letters" "I" ∈ wsX2_deliver := (List.mem_cons_of_mem _ (List.mem_append_left _ (List.mem_of_getElem? (i := 0) rfl)))
theorem mX2_deliver_11_2 : Cond.fieldLink RX2 22 "HissHorn$Houses" "letterDay" "[I" ∈ wsX2_deliver := (List.mem_cons_of_mem _ (List.mem_append_left _ (List.mem_of_getElem? (i := 1) rfl)))
def GX2_deliver_11_52 (k2 : Int32 → Int32 → SX → Option (Int32 × SX)) (z1 : Int32) (z2 : Int32) (u : SX) : Option (Int32 × SX) := (k2 z1 (z2 + 1) u)
theorem mX2_deliver_11_3 : Cond.fieldLink RX2 47 "HissHorn$Houses" "known" "[J" ∈ wsX2_deliver := (List.mem_cons_of_mem _ (List.mem_append_left _ (List.mem_of_getElem? (i := 2) rfl)))
theorem mX2_deliver_11_4 : Cond.fieldLink RX2 19 "HissHorn$Houses" "letterTo" "[I" ∈ wsX2_deliver := (List.mem_cons_of_mem _ (List.mem_append_left _ (List.mem_of_getElem? (i := 3) rfl)))
theorem mX2_deliver_11_5 : Cond.fieldLink RX2 15 "HissHorn$Houses" "letterFrom" "[I" ∈ wsX2_deliver := (List.mem_cons_of_mem _ (List.mem_append_left _ (List.mem_of_getElem? (i := 4) rfl)))
def LX2_deliver_11_2  : Nat → Int32 → Int32 → SX → Option (Int32 × SX)
  | 0, _, _, _ => none
  | n + 1, z1, z2, u => (if (u.1 38) ≤ z2 then (some (0, u)) else (gd (inb z2 60) (if (u.2.1 62 z2.toNatClampNeg) = z1 then (gd (inb z2 60) (gd (inb ((z1 * 8) + (u.2.1 61 z2.toNatClampNeg)) 968) (gd (inb z2 60) ((fX2_knownBy_11 (u.2.1 60 z2.toNatClampNeg) (z1 - 1) u).bind fun q => match q with | (r5, u6) => (gd (inb ((z1 * 8) + (u.2.1 61 z2.toNatClampNeg)) 968) (lt (sB u6 70 (vp_updL (u6.2.2.2 70) ((z1 * 8) + (u.2.1 61 z2.toNatClampNeg)).toNatClampNeg ((u.2.2.2 70 ((z1 * 8) + (u.2.1 61 z2.toNatClampNeg)).toNatClampNeg) ||| r5))) fun u9 => (GX2_deliver_11_52 (LX2_deliver_11_2 n) z1 z2 u9))))))) else (GX2_deliver_11_52 (LX2_deliver_11_2 n) z1 z2 u))))
def fX2_deliver_11 (x1 : Int32) (u : SX) : Option (Int32 × SX) := (LX2_deliver_11_2  5000 x1 0 u)
set_option maxHeartbeats 4000000 in
set_option maxRecDepth 100000 in
theorem wGX2_deliver_11_52 {p : Program} {l : Launch} {e : Env} {s : State} {m : MethodId} {args : Array Value} {below : List Frame} {meth : Method} {c : Code} {D : va_G} {cy : Nat → ClassId} {ad st : Nat → Nat} (C : Cx RX2 cX2_deliver 3 none wsX2_deliver p s m args meth c) (hK : Kx D [(cy 0, .int), (cy 1, .long), (cy 2, .boolean), (cy 3, .byte), (cy 4, .object "HissHorn$Text")] st s) (hJ : JX ad) {r : Int32} {u' : SX} {k2 : Int32 → Int32 → SX → Option (Int32 × SX)} (hk2 : ∀ (z1 : Int32) (z2 : Int32) (u : SX) (H : Heap) (locs : List Loc) (ls : Array Slot), k2 z1 z2 u = some (r, u') → va_P D vwCl (VX cy ad st u) H → va_S (Ax (AX ad) s.heap.size) s.heap H locs → lv_has ls 3 [(0, .ref (ad 11)), (1, .int z1), (2, .int z2)] → W p l e rmX2_deliver_11 s m args below meth c H locs 0 0 (MQ below (Qv D (VX cy ad st) (AX ad) s.heap.size r u') args s 0 0 (Ax (AX ad) s.heap.size)) (F0 m 2 ls [])) (z1 : Int32) (z2 : Int32) (u : SX) (H : Heap) (locs : List Loc) (ls : Array Slot) (h : GX2_deliver_11_52 k2 z1 z2 u = some (r, u')) (hP : va_P D vwCl (VX cy ad st u) H) (hS : va_S (Ax (AX ad) s.heap.size) s.heap H locs) (hl : lv_has ls 3 [(0, .ref (ad 11)), (1, .int z1), (2, .int z2)]) : W p l e rmX2_deliver_11 s m args below meth c H locs 0 0 (MQ below (Qv D (VX cy ad st) (AX ad) s.heap.size r u') args s 0 0 (Ax (AX ad) s.heap.size)) (F0 m 52 ls []) := by
  unfold GX2_deliver_11_52 at h
  refine lv_iinc (v := z2 + 1) (lv' := [(2, .int (z2 + 1)), (0, .ref (ad 11)), (1, .int z1)]) C.1 C.2.1 dX2_deliver_52 hl (k := 2) rfl rfl (by decide) rfl (fun ls hl => ?_)
  replace hl := lv_sub (l' := [(0, .ref (ad 11)), (1, .int z1), (2, .int (z2 + 1))]) hl [1, 2, 0] rfl
  refine lv_goto (tgt := 2) C.1 C.2.1 dX2_deliver_55 (by decide) ?_
  exact hk2 _ _ _ _ _ _ h hP hS hl
set_option maxHeartbeats 4000000 in
set_option maxRecDepth 100000 in
theorem wLX2_deliver_11_2 {p : Program} {l : Launch} {e : Env} {s : State} {m : MethodId} {args : Array Value} {below : List Frame} {meth : Method} {c : Code} {D : va_G} {cy : Nat → ClassId} {ad st : Nat → Nat} (C : Cx RX2 cX2_deliver 3 none wsX2_deliver p s m args meth c) (hK : Kx D [(cy 0, .int), (cy 1, .long), (cy 2, .boolean), (cy 3, .byte), (cy 4, .object "HissHorn$Text")] st s) (hJ : JX ad) {r : Int32} {u' : SX}   : ∀ (n : Nat) (z1 : Int32) (z2 : Int32) (u : SX) (H : Heap) (locs : List Loc) (ls : Array Slot), LX2_deliver_11_2  n z1 z2 u = some (r, u') → va_P D vwCl (VX cy ad st u) H → va_S (Ax (AX ad) s.heap.size) s.heap H locs → lv_has ls 3 [(0, .ref (ad 11)), (1, .int z1), (2, .int z2)] → W p l e rmX2_deliver_11 s m args below meth c H locs 0 0 (MQ below (Qv D (VX cy ad st) (AX ad) s.heap.size r u') args s 0 0 (Ax (AX ad) s.heap.size)) (F0 m 2 ls []) := by
  intro n
  induction n with
  | zero =>
    intro z1 z2 u H locs ls h
    exact absurd h (by intro q; cases q)
  | succ n ih =>
    intro z1 z2 u H locs ls h hP hS hl
    rw [LX2_deliver_11_2] at h
    refine lv_iload_n C.1 C.2.1 dX2_deliver_2 rfl (lv_at hl 2 rfl) ?_
    refine lv_aload_n C.1 C.2.1 dX2_deliver_3 rfl (lv_at hl 0 rfl) ?_
    refine gX_11_letters C hX2_deliver_11_X2 hK hP mX2_deliver_11_1 dX2_deliver_4 ?_
    refine lv_icmp_ge (tgt := 58) C.1 C.2.1 dX2_deliver_7 (by decide) (fun c7 => ?_) (fun c7 => ?_)
    · rw [if_pos c7] at h
      cases h
      exact rt_v C hP hS dX2_deliver_58
    · rw [if_neg c7] at h
      refine lv_aload_n C.1 C.2.1 dX2_deliver_10 rfl (lv_at hl 0 rfl) ?_
      refine gX_11_letterDay C hX2_deliver_11_X2 hK hP mX2_deliver_11_2 dX2_deliver_11 ?_
      refine lv_iload_n C.1 C.2.1 dX2_deliver_14 rfl (lv_at hl 2 rfl) ?_
      obtain ⟨hg1, h⟩ := gd_some h
      refine lX_62 C hK hP hg1 dX2_deliver_15 ?_
      refine lv_iload_n C.1 C.2.1 dX2_deliver_16 rfl (lv_at hl 1 rfl) ?_
      refine lv_icmp_ne (tgt := 52) C.1 C.2.1 dX2_deliver_17 (by decide) (fun c17 => ?_) (fun c17 => ?_)
      · rw [if_neg c17] at h
        exact wGX2_deliver_11_52 C hK hJ ih _ _ _ _ _ _ h hP hS hl
      · rw [if_pos c17] at h
        refine lv_aload_n C.1 C.2.1 dX2_deliver_20 rfl (lv_at hl 0 rfl) ?_
        refine gX_11_known C hX2_deliver_11_X2 hK hP mX2_deliver_11_3 dX2_deliver_21 ?_
        refine lv_iload_n C.1 C.2.1 dX2_deliver_24 rfl (lv_at hl 1 rfl) ?_
        refine lv_bipush (v := 8) C.1 C.2.1 dX2_deliver_25 (by decide) ?_
        refine lv_imul C.1 C.2.1 dX2_deliver_27 ?_
        refine lv_aload_n C.1 C.2.1 dX2_deliver_28 rfl (lv_at hl 0 rfl) ?_
        refine gX_11_letterTo C hX2_deliver_11_X2 hK hP mX2_deliver_11_4 dX2_deliver_29 ?_
        refine lv_iload_n C.1 C.2.1 dX2_deliver_32 rfl (lv_at hl 2 rfl) ?_
        obtain ⟨hg2, h⟩ := gd_some h
        refine lX_61 C hK hP hg2 dX2_deliver_33 ?_
        refine lv_iadd C.1 C.2.1 dX2_deliver_34 ?_
        refine lv_dup2_11 C.1 C.2.1 dX2_deliver_35 rfl rfl ?_
        obtain ⟨hg3, h⟩ := gd_some h
        refine lX_70 C hK hP hg3 dX2_deliver_36 ?_
        refine lv_aload_n C.1 C.2.1 dX2_deliver_37 rfl (lv_at hl 0 rfl) ?_
        refine lv_aload_n C.1 C.2.1 dX2_deliver_38 rfl (lv_at hl 0 rfl) ?_
        refine gX_11_letterFrom C hX2_deliver_11_X2 hK hP mX2_deliver_11_5 dX2_deliver_39 ?_
        refine lv_iload_n C.1 C.2.1 dX2_deliver_42 rfl (lv_at hl 2 rfl) ?_
        obtain ⟨hg4, h⟩ := gd_some h
        refine lX_60 C hK hP hg4 dX2_deliver_43 ?_
        refine lv_iload_n C.1 C.2.1 dX2_deliver_44 rfl (lv_at hl 1 rfl) ?_
        refine lv_iconst (v := 1) C.1 C.2.1 dX2_deliver_45 (by decide) ?_
        refine lv_isub C.1 C.2.1 dX2_deliver_46 ?_
        obtain ⟨⟨r5, u6⟩, hc7, h⟩ := bd_some h
        try dsimp only at h
        refine cg_l (As := [.int (u.2.1 60 z2.toNatClampNeg), .int (z1 - 1)]) (rest := [.long (u.2.2.2 70 ((z1 * 8) + (u.2.1 61 z2.toNatClampNeg)).toNatClampNeg), .int ((z1 * 8) + (u.2.1 61 z2.toNatClampNeg)), .ref (ad 70)]) C hK hP hS (metX2_knownBy_11 l D cy ad st hJ _ (u.2.1 60 z2.toNatClampNeg) (z1 - 1) hc7) (cwV 2 C.2.2.2.2.2.1 gX2_deliver_X2_knownBy rfl rfl rfl (by decide +kernel) ⟨(Nat.le_of_ble_eq_true rfl), (Nat.le_of_ble_eq_true rfl)⟩) 11 2 rfl rfl rfl hl.1 rfl (Nat.le_of_ble_eq_true rfl) dX2_deliver_47 ⟨Nat.zero_le _, Nat.zero_le _⟩ (fun H locs hP hS => ?_)
        refine lv_lor C.1 C.2.1 dX2_deliver_50 ?_
        obtain ⟨hg8, h⟩ := gd_some h
        refine tX_70 C hK hP hJ hS hg8 dX2_deliver_51 (fun H locs hP hS => ?_)
        obtain ⟨u9, hu10, h⟩ := lt_some h
        rw [← hu10] at hP
        exact wGX2_deliver_11_52 C hK hJ ih _ _ _ _ _ _ h hP hS hl
set_option maxHeartbeats 4000000 in
set_option maxRecDepth 100000 in
theorem wX2_deliver_11 {p : Program} {l : Launch} {e : Env} {s : State} {m : MethodId} {args : Array Value} {below : List Frame} {meth : Method} {c : Code} {D : va_G} {cy : Nat → ClassId} {ad st : Nat → Nat} (C : Cx RX2 cX2_deliver 3 none wsX2_deliver p s m args meth c) (hK : Kx D [(cy 0, .int), (cy 1, .long), (cy 2, .boolean), (cy 3, .byte), (cy 4, .object "HissHorn$Text")] st s) (hJ : JX ad) (x1 : Int32) {u : SX} {r : Int32} {u' : SX} {H : Heap} {locs : List Loc} {ls : Array Slot} (h : fX2_deliver_11 x1 u = some (r, u')) (hP : va_P D vwCl (VX cy ad st u) H) (hS : va_S (Ax (AX ad) s.heap.size) s.heap H locs) (hl : lv_has ls 3 [(0, .ref (ad 11)), (1, .int x1)]) : W p l e rmX2_deliver_11 s m args below meth c H locs 0 0 (MQ below (Qv D (VX cy ad st) (AX ad) s.heap.size r u') args s 0 0 (Ax (AX ad) s.heap.size)) (F0 m 0 ls []) := by
  unfold fX2_deliver_11 at h
  refine lv_iconst (v := 0) C.1 C.2.1 dX2_deliver_0 (by decide) ?_
  refine lv_istore_n (lv' := [(2, .int 0), (0, .ref (ad 11)), (1, .int x1)]) C.1 C.2.1 dX2_deliver_1 rfl hl (by decide) rfl (fun ls hl => ?_)
  replace hl := lv_sub (l' := [(0, .ref (ad 11)), (1, .int x1), (2, .int 0)]) hl [1, 2, 0] rfl
  exact wLX2_deliver_11_2 C hK hJ  5000 _ _ _ _ _ _ h hP hS hl
theorem metX2_deliver_11 (l : Launch) (D : va_G) (cy : Nat → ClassId) (ad st : Nat → Nat) (hJ : JX ad) (sz : Nat) (x1 : Int32) {u : SX} {r : Int32} {u' : SX} (h : fX2_deliver_11 x1 u = some (r, u')) : Met l yX2_deliver wsX2_deliver rmX2_deliver_11 (va_Pc [.ref (ad 11), .int x1] (Px D [(cy 0, .int), (cy 1, .long), (cy 2, .boolean), (cy 3, .byte), (cy 4, .object "HissHorn$Text")] st (VX cy ad st) sz u)) (Qv D (VX cy ad st) (AX ad) sz r u') 0 0 (Ax (AX ad) sz) := by
  refine Met.ofW (cc := cX2_deliver) (maxL := 3) (ret := none) (by decide) rfl ?_
  intro p e s m args below meth c s₁ B hml hv
  obtain ⟨rfl, hsz, hP, hK⟩ := hv
  subst hsz
  have C : Cx RX2 cX2_deliver 3 none wsX2_deliver p s m _ meth c := ⟨B.exec, B.bytes, hml, B.returns, findClass_of_methodNamed B.named, atoms_spec (ws := wsX2_deliver) B.pre, B.notSynchronized⟩
  have hl := lv_entry ([.ref (ad 11), .int x1]) (n := 3) (Nat.le_of_ble_eq_true rfl)
  rw [lg_entry_eq]
  exact wX2_deliver_11 C hK hJ x1 h hP va_S.rf hl
