set_option maxHeartbeats 4000000 in
set_option maxRecDepth 100000 in
theorem wGX12_condition_0_51 {p : Program} {l : Launch} {e : Env} {s : State} {m : MethodId} {args : Array Value} {below : List Frame} {meth : Method} {c : Code} {D : va_G} {cy : Nat → ClassId} {ad st : Nat → Nat} (C : Cx RX12 cX12_condition 5 (some .boolean) wsX12_condition p s m args meth c) (hK : Ky D [(cy 0, .int), (cy 1, .long), (cy 2, .boolean), (cy 3, .byte), (cy 4, .object "HissHorn$Text")] st s) (hJ : JM ad st) {rc : Nat → Int32 → Int32 → SX → Option (Int32 × SX)} {dd : Nat} (hrc : hRX12conditiong l D cy ad st rc dd) {r : Int32} {u' : SX} {k7 : Int32 → SX → Option (Int32 × SX)} (hk7 : ∀ (z3 : Int32) (u : SX) (H : Heap) (locs : List Loc) (ls : Array Slot), k7 z3 u = some (r, u') → va_P D vwCl (VM cy ad st u) H → va_S (Ax (AM ad) s.heap.size) s.heap H locs → lv_has ls 5 [(0, .ref (ad 0)), (3, .int z3)] → W p l e (rmX12conditiong (dd + 1)) s m args below meth c H locs 0 0 (MQ below (Qi D (VM cy ad st) (AM ad) s.heap.size r u') args s 0 0 (Ax (AM ad) s.heap.size)) (F0 m 7 ls [])) (u : SX) (H : Heap) (locs : List Loc) (ls : Array Slot) (h : GX12_condition_0_51 rc k7  u = some (r, u')) (hP : va_P D vwCl (VM cy ad st u) H) (hS : va_S (Ax (AM ad) s.heap.size) s.heap H locs) (hl : lv_has ls 5 [(0, .ref (ad 0))]) : W p l e (rmX12conditiong (dd + 1)) s m args below meth c H locs 0 0 (MQ below (Qi D (VM cy ad st) (AM ad) s.heap.size r u') args s 0 0 (Ax (AM ad) s.heap.size)) (F0 m 51 ls []) := by
  unfold GX12_condition_0_51 at h
  refine lv_iconst (v := 1) C.1 C.2.1 dX12_condition_51 (by decide) ?_
  refine lv_goto (tgt := 56) C.1 C.2.1 dX12_condition_52 (by decide) ?_
  exact wGX12_condition_0_56 C hK hJ hrc hk7 _ _ _ _ _ h hP hS hl
set_option maxHeartbeats 4000000 in
set_option maxRecDepth 100000 in
theorem wLX12_condition_0_7 {p : Program} {l : Launch} {e : Env} {s : State} {m : MethodId} {args : Array Value} {below : List Frame} {meth : Method} {c : Code} {D : va_G} {cy : Nat → ClassId} {ad st : Nat → Nat} (C : Cx RX12 cX12_condition 5 (some .boolean) wsX12_condition p s m args meth c) (hK : Ky D [(cy 0, .int), (cy 1, .long), (cy 2, .boolean), (cy 3, .byte), (cy 4, .object "HissHorn$Text")] st s) (hJ : JM ad st) {rc : Nat → Int32 → Int32 → SX → Option (Int32 × SX)} {dd : Nat} (hrc : hRX12conditiong l D cy ad st rc dd) {r : Int32} {u' : SX}   : ∀ (n : Nat) (z3 : Int32) (u : SX) (H : Heap) (locs : List Loc) (ls : Array Slot), LX12_condition_0_7 rc  n z3 u = some (r, u') → va_P D vwCl (VM cy ad st u) H → va_S (Ax (AM ad) s.heap.size) s.heap H locs → lv_has ls 5 [(0, .ref (ad 0)), (3, .int z3)] → W p l e (rmX12conditiong (dd + 1)) s m args below meth c H locs 0 0 (MQ below (Qi D (VM cy ad st) (AM ad) s.heap.size r u') args s 0 0 (Ax (AM ad) s.heap.size)) (F0 m 7 ls []) := by
  intro n
  induction n with
  | zero =>
    intro z3 u H locs ls h
    exact absurd h (by intro q; cases q)
  | succ n ih =>
    intro z3 u H locs ls h hP hS hl
    rw [LX12_condition_0_7] at h
    refine lv_aload_n C.1 C.2.1 dX12_condition_7 rfl (lv_at hl 0 rfl) ?_
    refine gM_0_fault C hX12_condition_0_X12 hK hP mX12_condition_0_1 dX12_condition_8 ?_
    refine lv_iconst (v := (-1)) C.1 C.2.1 dX12_condition_11 (by decide) ?_
    refine lv_icmp_ne (tgt := 60) C.1 C.2.1 dX12_condition_12 (by decide) (fun c12 => ?_) (fun c12 => ?_)
    · rw [if_neg c12] at h
      refine lv_iload_n C.1 C.2.1 dX12_condition_60 rfl (lv_at hl 1 rfl) ?_
      obtain ⟨hg4, h⟩ := gd_some h
      cases h
      exact rt_z hg4 C hP hS dX12_condition_61
    · rw [if_pos c12] at h
      refine lv_aload_n C.1 C.2.1 dX12_condition_15 rfl (lv_at hl 0 rfl) ?_
      obtain ⟨⟨r5, u6⟩, hc7, h⟩ := bd_some h
      try dsimp only at h
      refine cg_i (As := []) (rest := []) (AM_ge hJ) C hK hP hS (metX12_look_0 l D cy ad st hJ _  hc7) (cwV 0 C.2.2.2.2.2.1 gX12_condition_X12_look rfl rfl rfl (by decide +kernel) ⟨(Nat.le_trans (m := 70) (Nat.le_of_ble_eq_true rfl) (rmX12conditiong_f _)), (Nat.le_trans (m := 4236) (Nat.le_of_ble_eq_true rfl) (rmX12conditiong_l _))⟩) 0 12 rfl rfl rfl hl.1 rfl (Nat.le_of_ble_eq_true rfl) dX12_condition_16 ⟨Nat.zero_le _, Nat.zero_le _⟩ (fun H locs hP hS => ?_)
      refine lv_bipush (v := 124) C.1 C.2.1 dX12_condition_19 (by decide) ?_
      refine lv_icmp_ne (tgt := 60) C.1 C.2.1 dX12_condition_21 (by decide) (fun c21 => ?_) (fun c21 => ?_)
      · rw [if_neg c21] at h
        refine lv_iload_n C.1 C.2.1 dX12_condition_60 rfl (lv_at hl 1 rfl) ?_
        obtain ⟨hg8, h⟩ := gd_some h
        cases h
        exact rt_z hg8 C hP hS dX12_condition_61
      · rw [if_pos c21] at h
        refine lv_aload_n C.1 C.2.1 dX12_condition_24 rfl (lv_at hl 0 rfl) ?_
        refine lv_dup C.1 C.2.1 dX12_condition_25 rfl ?_
        refine gM_0_at C hX12_condition_0_X12 hK hP mX12_condition_0_2 dX12_condition_26 ?_
        refine lv_iconst (v := 1) C.1 C.2.1 dX12_condition_29 (by decide) ?_
        refine lv_iadd C.1 C.2.1 dX12_condition_30 ?_
        refine pM_0_at C hX12_condition_0_X12 hK hP hJ hS mX12_condition_0_2 dX12_condition_31 (fun H locs hP hS => ?_)
        obtain ⟨u9, hu10, h⟩ := lt_some h
        rw [← hu10] at hP
        refine lv_aload_n C.1 C.2.1 dX12_condition_34 rfl (lv_at hl 0 rfl) ?_
        refine lv_iconst (v := 0) C.1 C.2.1 dX12_condition_35 (by decide) ?_
        refine lv_iconst (v := 0) C.1 C.2.1 dX12_condition_36 (by decide) ?_
        obtain ⟨⟨r11, u12⟩, hc13, h⟩ := bd_some h
        try dsimp only at h
        refine cg_i (As := [.int 0, .int 0]) (rest := []) (AM_ge hJ) C hK hP hS (hrc.2.1 _ 0 0 _ _ _ hc13) (cwV 2 C.2.2.2.2.2.1 gX12_condition_X12_part rfl rfl rfl (by decide +kernel) ⟨rmX12conditiong_sf dd, rmX12conditiong_sl dd (k := 8 + (5 + 11)) (Nat.le_of_ble_eq_true rfl)⟩) 0 12 rfl rfl rfl hl.1 rfl (Nat.le_of_ble_eq_true rfl) dX12_condition_37 ⟨Nat.zero_le _, Nat.zero_le _⟩ (fun H locs hP hS => ?_)
        refine lv_istore (lv' := [(4, .int r11), (0, .ref (ad 0)), (3, .int z3)]) C.1 C.2.1 dX12_condition_40 hl (by decide) rfl (fun ls hl => ?_)
        replace hl := lv_sub (l' := [(0, .ref (ad 0)), (3, .int z3), (4, .int r11)]) hl [1, 2, 0] rfl
        refine lv_iload_n C.1 C.2.1 dX12_condition_42 rfl (lv_at hl 1 rfl) ?_
        refine lv_if_ne (tgt := 51) C.1 C.2.1 dX12_condition_43 (by decide) (fun c43 => ?_) (fun c43 => ?_)
        · rw [if_neg c43] at h
          exact wGX12_condition_0_51 C hK hJ hrc ih _ _ _ _ h hP hS (lv_sub hl [0] rfl)
        · rw [if_pos c43] at h
          refine lv_iload C.1 C.2.1 dX12_condition_46 (lv_at hl 2 rfl) ?_
          refine lv_if_eq (tgt := 55) C.1 C.2.1 dX12_condition_48 (by decide) (fun c48 => ?_) (fun c48 => ?_)
          · rw [if_pos c48] at h
            refine lv_iconst (v := 0) C.1 C.2.1 dX12_condition_55 (by decide) ?_
            exact wGX12_condition_0_56 C hK hJ hrc ih _ _ _ _ _ h hP hS (lv_sub hl [0] rfl)
          · rw [if_neg c48] at h
            exact wGX12_condition_0_51 C hK hJ hrc ih _ _ _ _ h hP hS (lv_sub hl [0] rfl)
set_option maxHeartbeats 4000000 in
set_option maxRecDepth 100000 in
theorem wX12_condition_0 {p : Program} {l : Launch} {e : Env} {s : State} {m : MethodId} {args : Array Value} {below : List Frame} {meth : Method} {c : Code} {D : va_G} {cy : Nat → ClassId} {ad st : Nat → Nat} (C : Cx RX12 cX12_condition 5 (some .boolean) wsX12_condition p s m args meth c) (hK : Ky D [(cy 0, .int), (cy 1, .long), (cy 2, .boolean), (cy 3, .byte), (cy 4, .object "HissHorn$Text")] st s) (hJ : JM ad st) {rc : Nat → Int32 → Int32 → SX → Option (Int32 × SX)} {dd : Nat} (hrc : hRX12conditiong l D cy ad st rc dd) (x1 : Int32) (x2 : Int32) {u : SX} {r : Int32} {u' : SX} {H : Heap} {locs : List Loc} {ls : Array Slot} (h : fX12_condition_0 rc x1 x2 u = some (r, u')) (hP : va_P D vwCl (VM cy ad st u) H) (hS : va_S (Ax (AM ad) s.heap.size) s.heap H locs) (hl : lv_has ls 5 [(0, .ref (ad 0)), (1, .int x1), (2, .int x2)]) : W p l e (rmX12conditiong (dd + 1)) s m args below meth c H locs 0 0 (MQ below (Qi D (VM cy ad st) (AM ad) s.heap.size r u') args s 0 0 (Ax (AM ad) s.heap.size)) (F0 m 0 ls []) := by
  unfold fX12_condition_0 at h
  refine lv_aload_n C.1 C.2.1 dX12_condition_0 rfl (lv_at hl 0 rfl) ?_
  refine lv_iload_n C.1 C.2.1 dX12_condition_1 rfl (lv_at hl 1 rfl) ?_
  refine lv_iload_n C.1 C.2.1 dX12_condition_2 rfl (lv_at hl 2 rfl) ?_
  obtain ⟨⟨r1, u2⟩, hc3, h⟩ := bd_some h
  try dsimp only at h
  refine cg_i (As := [.int x1, .int x2]) (rest := []) (AM_ge hJ) C hK hP hS (hrc.2.1 _ x1 x2 _ _ _ hc3) (cwV 2 C.2.2.2.2.2.1 gX12_condition_X12_part rfl rfl rfl (by decide +kernel) ⟨rmX12conditiong_sf dd, rmX12conditiong_sl dd (k := 8 + (5 + 11)) (Nat.le_of_ble_eq_true rfl)⟩) 0 12 rfl rfl rfl hl.1 rfl (Nat.le_of_ble_eq_true rfl) dX12_condition_3 ⟨Nat.zero_le _, Nat.zero_le _⟩ (fun H locs hP hS => ?_)
  refine lv_istore_n (lv' := [(3, .int r1), (0, .ref (ad 0)), (1, .int x1), (2, .int x2)]) C.1 C.2.1 dX12_condition_6 rfl hl (by decide) rfl (fun ls hl => ?_)
  replace hl := lv_sub (l' := [(0, .ref (ad 0)), (1, .int x1), (2, .int x2), (3, .int r1)]) hl [1, 2, 3, 0] rfl
  exact wLX12_condition_0_7 C hK hJ hrc  5000 _ _ _ _ _ h hP hS (lv_sub hl [0, 3] rfl)
theorem metX12_condition_0 (l : Launch) (D : va_G) (cy : Nat → ClassId) (ad st : Nat → Nat) (hJ : JM ad st) {rc : Nat → Int32 → Int32 → SX → Option (Int32 × SX)} {dd : Nat} (hrc : hRX12conditiong l D cy ad st rc dd) (sz : Nat) (x1 : Int32) (x2 : Int32) {u : SX} {r : Int32} {u' : SX} (h : fX12_condition_0 rc x1 x2 u = some (r, u')) : Met l yX12_condition wsX12_condition (rmX12conditiong (dd + 1)) (va_Pc [.ref (ad 0), .int x1, .int x2] (Px D [(cy 0, .int), (cy 1, .long), (cy 2, .boolean), (cy 3, .byte), (cy 4, .object "HissHorn$Text")] st (VM cy ad st) sz u)) (Qi D (VM cy ad st) (AM ad) sz r u') 0 0 (Ax (AM ad) sz) := by
  refine Met.ofW (cc := cX12_condition) (maxL := 5) (ret := (some .boolean)) (by decide) rfl ?_
  intro p e s m args below meth c s₁ B hml hv
  obtain ⟨rfl, hsz, hP, hK⟩ := hv
  subst hsz
  have C : Cx RX12 cX12_condition 5 (some .boolean) wsX12_condition p s m _ meth c := ⟨B.exec, B.bytes, hml, B.returns, findClass_of_methodNamed B.named, atoms_spec (ws := wsX12_condition) B.pre, B.notSynchronized⟩
  have hl := lv_entry ([.ref (ad 0), .int x1, .int x2]) (n := 5) (Nat.le_of_ble_eq_true rfl)
  rw [lg_entry_eq]
  exact wX12_condition_0 C hK hJ hrc x1 x2 h hP va_S.rf hl

theorem dX12_part_65 : decode cX12_part 65 = .ok (.istore_n 3, 1) := by decide +kernel
theorem dX12_part_66 : decode cX12_part 66 = .ok (.goto (-48), 3) := by decide +kernel
theorem dX12_part_64 : decode cX12_part 64 = .ok (.iconst 0, 1) := by decide +kernel
theorem dX12_part_18 : decode cX12_part 18 = .ok (.aload_n 0, 1) := by decide +kernel
theorem dX12_part_19 : decode cX12_part 19 = .ok (.getfield 182, 3) := by decide +kernel
theorem dX12_part_22 : decode cX12_part 22 = .ok (.iconst (-1), 1) := by decide +kernel
theorem dX12_part_23 : decode cX12_part 23 = .ok (.if_icmp .ne 46, 3) := by decide +kernel
theorem dX12_part_69 : decode cX12_part 69 = .ok (.iload_n 3, 1) := by decide +kernel
theorem dX12_part_70 : decode cX12_part 70 = .ok (.ireturn, 1) := by decide +kernel
theorem dX12_part_26 : decode cX12_part 26 = .ok (.aload_n 0, 1) := by decide +kernel
set_option maxRecDepth 20000 in
theorem ggX12_part_X12_look : GoodIn wsX12_part wsX12_look := goodIn_r _ [18, 2, 19, 20, 21, 160, 161, 162, 163, 164, 165, 166, 167, 168, 169, 170, 171, 172, 173, 174, 175, 176, 177, 178, 179, 180, 181, 182, 183, 184, 185, 186, 187, 188, 189, 190, 191, 192, 193, 194, 195, 196, 197, 198, 199, 200, 201, 202, 203, 204, 205, 206, 207, 208, 209, 210, 211, 212, 213, 214, 215, 216, 217, 218, 219, 220, 221, 222, 223, 224, 225, 226, 227, 228] rfl (by decide +kernel)
set_option maxRecDepth 20000 in
theorem gX12_part_X12_look : GoodIn wsX12_part (wsV RX12 192 RX12 yX12_look wsX12_look) := goodIn_app (goodIn_of _ (by decide +kernel)) ggX12_part_X12_look
theorem dX12_part_27 : decode cX12_part 27 = .ok (.invokevirtual 192, 3) := by decide +kernel
theorem dX12_part_30 : decode cX12_part 30 = .ok (.bipush 38, 2) := by decide +kernel
theorem dX12_part_32 : decode cX12_part 32 = .ok (.if_icmp .ne 37, 3) := by decide +kernel
theorem dX12_part_35 : decode cX12_part 35 = .ok (.aload_n 0, 1) := by decide +kernel
theorem dX12_part_36 : decode cX12_part 36 = .ok (.dup, 1) := by decide +kernel
theorem dX12_part_37 : decode cX12_part 37 = .ok (.getfield 173, 3) := by decide +kernel
theorem dX12_part_40 : decode cX12_part 40 = .ok (.iconst 1, 1) := by decide +kernel
theorem dX12_part_41 : decode cX12_part 41 = .ok (.iadd, 1) := by decide +kernel
theorem dX12_part_42 : decode cX12_part 42 = .ok (.putfield 173, 3) := by decide +kernel
theorem dX12_part_45 : decode cX12_part 45 = .ok (.aload_n 0, 1) := by decide +kernel
set_option maxRecDepth 20000 in
theorem ggX12_part_X12_unit : GoodIn wsX12_part wsX12_unit := goodIn_r _ [156, 37, 15, 16, 17, 6, 18, 2, 19, 20, 21, 126, 127, 128, 129, 130, 131, 132, 133, 1, 149, 150, 151, 157, 158, 159, 134, 135, 136, 137, 3, 4, 5, 7, 8, 9, 10, 11, 12, 13, 14, 22, 23, 24, 25, 26, 27, 28, 29, 30, 31, 32, 33, 34, 35, 36, 38, 39, 40, 41, 42, 43, 44, 45, 46, 47, 48, 49, 50, 51, 52, 53, 54, 55, 56, 57, 58, 59, 60, 61, 62, 63, 64, 65, 66, 67, 68, 69, 70, 71, 72, 73, 74, 75, 76, 77, 78, 79, 80, 81, 82, 83, 84, 85, 86, 87, 88, 89, 90, 91, 92, 93, 94, 95, 96, 97, 98, 99, 100, 101, 102, 103, 104, 105, 106, 107, 108, 109, 110, 111, 112, 113, 114, 115, 116, 117, 118, 119, 120, 121, 122, 123, 124, 125, 138, 139, 140, 141, 142, 143, 144, 145, 146, 147, 148, 152, 153, 154, 155, 0, 160, 161, 162, 163, 164, 165, 166, 167, 168, 169, 170, 171, 172, 173, 174, 175, 176, 177, 178, 179, 180, 181, 182, 183, 184, 185, 186, 187, 188, 189, 190, 191, 192, 193, 194, 195, 196, 197, 198, 199, 200, 201, 202, 203, 204, 205, 206, 207, 208, 209, 210, 211, 212, 213, 214, 215, 216, 217, 218, 219, 220, 221, 222, 223, 224, 225, 226, 227, 228] rfl (by decide +kernel)
set_option maxRecDepth 20000 in
theorem gX12_part_X12_unit : GoodIn wsX12_part (wsV RX12 240 RX12 yX12_unit wsX12_unit) := goodIn_app (goodIn_of _ (by decide +kernel)) ggX12_part_X12_unit
theorem dX12_part_46 : decode cX12_part 46 = .ok (.invokevirtual 240, 3) := by decide +kernel
theorem dX12_part_49 : decode cX12_part 49 = .ok (.istore 4, 2) := by decide +kernel
theorem dX12_part_51 : decode cX12_part 51 = .ok (.iload_n 3, 1) := by decide +kernel
theorem dX12_part_52 : decode cX12_part 52 = .ok (.ifCond .eq 12, 3) := by decide +kernel
theorem dX12_part_55 : decode cX12_part 55 = .ok (.iload 4, 2) := by decide +kernel
theorem dX12_part_57 : decode cX12_part 57 = .ok (.ifCond .eq 7, 3) := by decide +kernel
theorem dX12_part_60 : decode cX12_part 60 = .ok (.iconst 1, 1) := by decide +kernel
theorem dX12_part_61 : decode cX12_part 61 = .ok (.goto 4, 3) := by decide +kernel
theorem dX12_part_17 : decode cX12_part 17 = .ok (.istore_n 3, 1) := by decide +kernel
theorem dX12_part_0 : decode cX12_part 0 = .ok (.iload_n 1, 1) := by decide +kernel
theorem dX12_part_1 : decode cX12_part 1 = .ok (.ifCond .eq 12, 3) := by decide +kernel
theorem dX12_part_13 : decode cX12_part 13 = .ok (.aload_n 0, 1) := by decide +kernel
theorem dX12_part_14 : decode cX12_part 14 = .ok (.invokevirtual 240, 3) := by decide +kernel
theorem dX12_part_4 : decode cX12_part 4 = .ok (.aload_n 0, 1) := by decide +kernel
theorem dX12_part_5 : decode cX12_part 5 = .ok (.iconst 1, 1) := by decide +kernel
theorem dX12_part_6 : decode cX12_part 6 = .ok (.iload_n 2, 1) := by decide +kernel
set_option maxRecDepth 20000 in
theorem ggX12_part_X12_compares : GoodIn wsX12_part wsX12_compares := goodIn_r _ [7, 1, 2, 8, 9, 10, 6, 11, 12, 13, 14, 15, 16, 17, 18, 19, 20, 21, 22, 23, 24, 25, 26, 27, 28, 29, 30, 31, 32, 33, 34, 35, 36, 37, 38, 39, 40, 41, 42, 43, 44, 45, 46, 47, 48, 49, 50, 51, 52, 53, 54, 55, 56, 57, 58, 59, 60, 61, 62, 63, 64, 65, 66, 67, 68, 69, 70, 71, 72, 73, 74, 75, 76, 77, 78, 79, 80, 81, 82, 83, 84, 85, 86, 87, 88, 89, 90, 91, 92, 93, 94, 95, 96, 97, 98, 99, 100, 101, 102, 103, 104, 105, 106, 107, 108, 109, 110, 111, 112, 113, 114, 115, 116, 117, 118, 119, 120, 121, 122, 123, 124, 125, 126, 127, 128, 129, 130, 131, 132, 133, 134, 135, 136, 137, 138, 139, 140, 141, 142, 143, 144, 145, 146, 147, 148, 160, 161, 162, 163, 164, 165, 166, 167, 168, 169, 170, 171, 172, 173, 174, 175, 176, 177, 178, 179, 180, 181, 182, 183, 184, 185, 186, 187, 188, 189, 190, 191, 192, 193, 194, 195, 196, 197, 198, 199, 200, 201, 202, 203, 204, 205, 206, 207, 208, 209, 210, 211, 212, 213, 214, 215, 216, 217, 218, 219, 220, 221, 222, 223, 224, 225, 226, 227, 228] rfl (by decide +kernel)
set_option maxRecDepth 20000 in
theorem gX12_part_X12_compares : GoodIn wsX12_part (wsV RX12 247 RX12 yX12_compares wsX12_compares) := goodIn_app (goodIn_of _ (by decide +kernel)) ggX12_part_X12_compares
theorem dX12_part_7 : decode cX12_part 7 = .ok (.invokevirtual 247, 3) := by decide +kernel
theorem dX12_part_10 : decode cX12_part 10 = .ok (.goto 7, 3) := by decide +kernel
/-- HissHornModel.part(ZI)Z of cell 0 -/
theorem hX12_part_0_X12 : ∀ w ∈ u_ws RX12 TX12 69, w ∈ wsX12_part := fun w h => (List.mem_cons_of_mem _ (List.mem_append_right _ h))
theorem mX12_part_0_1 : Cond.fieldLink RX12 182 "HissHornModel" "fault" "I" ∈ wsX12_part := (List.mem_cons_of_mem _ (List.mem_append_left _ (List.mem_append_left _ (List.mem_of_getElem? (i := 0) rfl))))
theorem mX12_part_0_2 : Cond.fieldLink RX12 173 "HissHornModel" "at" "I" ∈ wsX12_part := (List.mem_cons_of_mem _ (List.mem_append_left _ (List.mem_append_left _ (List.mem_of_getElem? (i := 1) rfl))))
def GX12_part_0_65 (rc : Nat → Int32 → Int32 → SX → Option (Int32 × SX)) (k18 : Int32 → SX → Option (Int32 × SX)) (y0 : Int32) (u : SX) : Option (Int32 × SX) := (k18 y0 u)
def GX12_part_0_64 (rc : Nat → Int32 → Int32 → SX → Option (Int32 × SX)) (k18 : Int32 → SX → Option (Int32 × SX))  (u : SX) : Option (Int32 × SX) := (GX12_part_0_65 rc k18 0 u)
def LX12_part_0_18 (rc : Nat → Int32 → Int32 → SX → Option (Int32 × SX))  : Nat → Int32 → SX → Option (Int32 × SX)
  | 0, _, _ => none
  | n + 1, z3, u => (if (u.1 7) = (-1) then ((fX12_look_0  u).bind fun q => match q with | (r5, u6) => (if r5 = 38 then (lt (sI u6 6 ((u6.1 6) + 1)) fun u9 => ((rc 2  0 0 u9).bind fun q => match q with | (r11, u12) => (if z3 = 0 then (GX12_part_0_64 rc (LX12_part_0_18 rc n) u12) else (if r11 = 0 then (GX12_part_0_64 rc (LX12_part_0_18 rc n) u12) else (GX12_part_0_65 rc (LX12_part_0_18 rc n) 1 u12))))) else (gd (isB z3) (some (z3, u6))))) else (gd (isB z3) (some (z3, u))))
def GX12_part_0_17 (rc : Nat → Int32 → Int32 → SX → Option (Int32 × SX)) (y0 : Int32) (u : SX) : Option (Int32 × SX) := (LX12_part_0_18 rc  5000 y0 u)
def fX12_part_0 (rc : Nat → Int32 → Int32 → SX → Option (Int32 × SX)) (x1 : Int32) (x2 : Int32) (u : SX) : Option (Int32 × SX) := (if x1 = 0 then ((rc 2  0 0 u).bind fun q => match q with | (r1, u2) => (GX12_part_0_17 rc r1 u2)) else ((fX12_compares_0 1 x2 u).bind fun q => match q with | (r14, u15) => (GX12_part_0_17 rc r14 u15)))
set_option maxHeartbeats 4000000 in
set_option maxRecDepth 100000 in
theorem wGX12_part_0_65 {p : Program} {l : Launch} {e : Env} {s : State} {m : MethodId} {args : Array Value} {below : List Frame} {meth : Method} {c : Code} {D : va_G} {cy : Nat → ClassId} {ad st : Nat → Nat} (C : Cx RX12 cX12_part 5 (some .boolean) wsX12_part p s m args meth c) (hK : Ky D [(cy 0, .int), (cy 1, .long), (cy 2, .boolean), (cy 3, .byte), (cy 4, .object "HissHorn$Text")] st s) (hJ : JM ad st) {rc : Nat → Int32 → Int32 → SX → Option (Int32 × SX)} {dd : Nat} (hrc : hRX12conditiong l D cy ad st rc dd) {r : Int32} {u' : SX} {k18 : Int32 → SX → Option (Int32 × SX)} (hk18 : ∀ (z3 : Int32) (u : SX) (H : Heap) (locs : List Loc) (ls : Array Slot), k18 z3 u = some (r, u') → va_P D vwCl (VM cy ad st u) H → va_S (Ax (AM ad) s.heap.size) s.heap H locs → lv_has ls 5 [(0, .ref (ad 0)), (3, .int z3)] → W p l e (rmX12conditiong (dd + 1)) s m args below meth c H locs 0 0 (MQ below (Qi D (VM cy ad st) (AM ad) s.heap.size r u') args s 0 0 (Ax (AM ad) s.heap.size)) (F0 m 18 ls [])) (y0 : Int32) (u : SX) (H : Heap) (locs : List Loc) (ls : Array Slot) (h : GX12_part_0_65 rc k18 y0 u = some (r, u')) (hP : va_P D vwCl (VM cy ad st u) H) (hS : va_S (Ax (AM ad) s.heap.size) s.heap H locs) (hl : lv_has ls 5 [(0, .ref (ad 0))]) : W p l e (rmX12conditiong (dd + 1)) s m args below meth c H locs 0 0 (MQ below (Qi D (VM cy ad st) (AM ad) s.heap.size r u') args s 0 0 (Ax (AM ad) s.heap.size)) (F0 m 65 ls [.int y0]) := by
  unfold GX12_part_0_65 at h
  refine lv_istore_n (lv' := [(3, .int y0), (0, .ref (ad 0))]) C.1 C.2.1 dX12_part_65 rfl hl (by decide) rfl (fun ls hl => ?_)
  replace hl := lv_sub (l' := [(0, .ref (ad 0)), (3, .int y0)]) hl [1, 0] rfl
  refine lv_goto (tgt := 18) C.1 C.2.1 dX12_part_66 (by decide) ?_
  exact hk18 _ _ _ _ _ h hP hS hl
set_option maxHeartbeats 4000000 in
set_option maxRecDepth 100000 in
theorem wGX12_part_0_64 {p : Program} {l : Launch} {e : Env} {s : State} {m : MethodId} {args : Array Value} {below : List Frame} {meth : Method} {c : Code} {D : va_G} {cy : Nat → ClassId} {ad st : Nat → Nat} (C : Cx RX12 cX12_part 5 (some .boolean) wsX12_part p s m args meth c) (hK : Ky D [(cy 0, .int), (cy 1, .long), (cy 2, .boolean), (cy 3, .byte), (cy 4, .object "HissHorn$Text")] st s) (hJ : JM ad st) {rc : Nat → Int32 → Int32 → SX → Option (Int32 × SX)} {dd : Nat} (hrc : hRX12conditiong l D cy ad st rc dd) {r : Int32} {u' : SX} {k18 : Int32 → SX → Option (Int32 × SX)} (hk18 : ∀ (z3 : Int32) (u : SX) (H : Heap) (locs : List Loc) (ls : Array Slot), k18 z3 u = some (r, u') → va_P D vwCl (VM cy ad st u) H → va_S (Ax (AM ad) s.heap.size) s.heap H locs → lv_has ls 5 [(0, .ref (ad 0)), (3, .int z3)] → W p l e (rmX12conditiong (dd + 1)) s m args below meth c H locs 0 0 (MQ below (Qi D (VM cy ad st) (AM ad) s.heap.size r u') args s 0 0 (Ax (AM ad) s.heap.size)) (F0 m 18 ls [])) (u : SX) (H : Heap) (locs : List Loc) (ls : Array Slot) (h : GX12_part_0_64 rc k18  u = some (r, u')) (hP : va_P D vwCl (VM cy ad st u) H) (hS : va_S (Ax (AM ad) s.heap.size) s.heap H locs) (hl : lv_has ls 5 [(0, .ref (ad 0))]) : W p l e (rmX12conditiong (dd + 1)) s m args below meth c H locs 0 0 (MQ below (Qi D (VM cy ad st) (AM ad) s.heap.size r u') args s 0 0 (Ax (AM ad) s.heap.size)) (F0 m 64 ls []) := by
  unfold GX12_part_0_64 at h
  refine lv_iconst (v := 0) C.1 C.2.1 dX12_part_64 (by decide) ?_
  exact wGX12_part_0_65 C hK hJ hrc hk18 _ _ _ _ _ h hP hS hl
set_option maxHeartbeats 4000000 in
set_option maxRecDepth 100000 in
theorem wLX12_part_0_18 {p : Program} {l : Launch} {e : Env} {s : State} {m : MethodId} {args : Array Value} {below : List Frame} {meth : Method} {c : Code} {D : va_G} {cy : Nat → ClassId} {ad st : Nat → Nat} (C : Cx RX12 cX12_part 5 (some .boolean) wsX12_part p s m args meth c) (hK : Ky D [(cy 0, .int), (cy 1, .long), (cy 2, .boolean), (cy 3, .byte), (cy 4, .object "HissHorn$Text")] st s) (hJ : JM ad st) {rc : Nat → Int32 → Int32 → SX → Option (Int32 × SX)} {dd : Nat} (hrc : hRX12conditiong l D cy ad st rc dd) {r : Int32} {u' : SX}   : ∀ (n : Nat) (z3 : Int32) (u : SX) (H : Heap) (locs : List Loc) (ls : Array Slot), LX12_part_0_18 rc  n z3 u = some (r, u') → va_P D vwCl (VM cy ad st u) H → va_S (Ax (AM ad) s.heap.size) s.heap H locs → lv_has ls 5 [(0, .ref (ad 0)), (3, .int z3)] → W p l e (rmX12conditiong (dd + 1)) s m args below meth c H locs 0 0 (MQ below (Qi D (VM cy ad st) (AM ad) s.heap.size r u') args s 0 0 (Ax (AM ad) s.heap.size)) (F0 m 18 ls []) := by
  intro n
  induction n with
  | zero =>
    intro z3 u H locs ls h
    exact absurd h (by intro q; cases q)
  | succ n ih =>
    intro z3 u H locs ls h hP hS hl
    rw [LX12_part_0_18] at h
    refine lv_aload_n C.1 C.2.1 dX12_part_18 rfl (lv_at hl 0 rfl) ?_
    refine gM_0_fault C hX12_part_0_X12 hK hP mX12_part_0_1 dX12_part_19 ?_
    refine lv_iconst (v := (-1)) C.1 C.2.1 dX12_part_22 (by decide) ?_
    refine lv_icmp_ne (tgt := 69) C.1 C.2.1 dX12_part_23 (by decide) (fun c23 => ?_) (fun c23 => ?_)
    · rw [if_neg c23] at h
      refine lv_iload_n C.1 C.2.1 dX12_part_69 rfl (lv_at hl 1 rfl) ?_
      obtain ⟨hg4, h⟩ := gd_some h
      cases h
      exact rt_z hg4 C hP hS dX12_part_70
    · rw [if_pos c23] at h
      refine lv_aload_n C.1 C.2.1 dX12_part_26 rfl (lv_at hl 0 rfl) ?_
      obtain ⟨⟨r5, u6⟩, hc7, h⟩ := bd_some h
      try dsimp only at h
      refine cg_i (As := []) (rest := []) (AM_ge hJ) C hK hP hS (metX12_look_0 l D cy ad st hJ _  hc7) (cwV 0 C.2.2.2.2.2.1 gX12_part_X12_look rfl rfl rfl (by decide +kernel) ⟨(Nat.le_trans (m := 70) (Nat.le_of_ble_eq_true rfl) (rmX12conditiong_f _)), (Nat.le_trans (m := 4236) (Nat.le_of_ble_eq_true rfl) (rmX12conditiong_l _))⟩) 0 12 rfl rfl rfl hl.1 rfl (Nat.le_of_ble_eq_true rfl) dX12_part_27 ⟨Nat.zero_le _, Nat.zero_le _⟩ (fun H locs hP hS => ?_)
      refine lv_bipush (v := 38) C.1 C.2.1 dX12_part_30 (by decide) ?_
      refine lv_icmp_ne (tgt := 69) C.1 C.2.1 dX12_part_32 (by decide) (fun c32 => ?_) (fun c32 => ?_)
      · rw [if_neg c32] at h
        refine lv_iload_n C.1 C.2.1 dX12_part_69 rfl (lv_at hl 1 rfl) ?_
        obtain ⟨hg8, h⟩ := gd_some h
        cases h
        exact rt_z hg8 C hP hS dX12_part_70
      · rw [if_pos c32] at h
        refine lv_aload_n C.1 C.2.1 dX12_part_35 rfl (lv_at hl 0 rfl) ?_
        refine lv_dup C.1 C.2.1 dX12_part_36 rfl ?_
        refine gM_0_at C hX12_part_0_X12 hK hP mX12_part_0_2 dX12_part_37 ?_
        refine lv_iconst (v := 1) C.1 C.2.1 dX12_part_40 (by decide) ?_
        refine lv_iadd C.1 C.2.1 dX12_part_41 ?_
        refine pM_0_at C hX12_part_0_X12 hK hP hJ hS mX12_part_0_2 dX12_part_42 (fun H locs hP hS => ?_)
        obtain ⟨u9, hu10, h⟩ := lt_some h
        rw [← hu10] at hP
        refine lv_aload_n C.1 C.2.1 dX12_part_45 rfl (lv_at hl 0 rfl) ?_
        obtain ⟨⟨r11, u12⟩, hc13, h⟩ := bd_some h
        try dsimp only at h
        refine cg_i (As := []) (rest := []) (AM_ge hJ) C hK hP hS (hrc.2.2 _  _ _ _ hc13) (cwV 0 C.2.2.2.2.2.1 gX12_part_X12_unit rfl rfl rfl (by decide +kernel) ⟨rmX12conditiong_sf dd, rmX12conditiong_sl dd (k := 8 + (3 + 11)) (Nat.le_of_ble_eq_true rfl)⟩) 0 12 rfl rfl rfl hl.1 rfl (Nat.le_of_ble_eq_true rfl) dX12_part_46 ⟨Nat.zero_le _, Nat.zero_le _⟩ (fun H locs hP hS => ?_)
        refine lv_istore (lv' := [(4, .int r11), (0, .ref (ad 0)), (3, .int z3)]) C.1 C.2.1 dX12_part_49 hl (by decide) rfl (fun ls hl => ?_)
        replace hl := lv_sub (l' := [(0, .ref (ad 0)), (3, .int z3), (4, .int r11)]) hl [1, 2, 0] rfl
        refine lv_iload_n C.1 C.2.1 dX12_part_51 rfl (lv_at hl 1 rfl) ?_
        refine lv_if_eq (tgt := 64) C.1 C.2.1 dX12_part_52 (by decide) (fun c52 => ?_) (fun c52 => ?_)
        · rw [if_pos c52] at h
          exact wGX12_part_0_64 C hK hJ hrc ih _ _ _ _ h hP hS (lv_sub hl [0] rfl)
        · rw [if_neg c52] at h
          refine lv_iload C.1 C.2.1 dX12_part_55 (lv_at hl 2 rfl) ?_
          refine lv_if_eq (tgt := 64) C.1 C.2.1 dX12_part_57 (by decide) (fun c57 => ?_) (fun c57 => ?_)
          · rw [if_pos c57] at h
            exact wGX12_part_0_64 C hK hJ hrc ih _ _ _ _ h hP hS (lv_sub hl [0] rfl)
          · rw [if_neg c57] at h
            refine lv_iconst (v := 1) C.1 C.2.1 dX12_part_60 (by decide) ?_
            refine lv_goto (tgt := 65) C.1 C.2.1 dX12_part_61 (by decide) ?_
            exact wGX12_part_0_65 C hK hJ hrc ih _ _ _ _ _ h hP hS (lv_sub hl [0] rfl)
set_option maxHeartbeats 4000000 in
set_option maxRecDepth 100000 in
theorem wGX12_part_0_17 {p : Program} {l : Launch} {e : Env} {s : State} {m : MethodId} {args : Array Value} {below : List Frame} {meth : Method} {c : Code} {D : va_G} {cy : Nat → ClassId} {ad st : Nat → Nat} (C : Cx RX12 cX12_part 5 (some .boolean) wsX12_part p s m args meth c) (hK : Ky D [(cy 0, .int), (cy 1, .long), (cy 2, .boolean), (cy 3, .byte), (cy 4, .object "HissHorn$Text")] st s) (hJ : JM ad st) {rc : Nat → Int32 → Int32 → SX → Option (Int32 × SX)} {dd : Nat} (hrc : hRX12conditiong l D cy ad st rc dd) {r : Int32} {u' : SX}   (y0 : Int32) (u : SX) (H : Heap) (locs : List Loc) (ls : Array Slot) (h : GX12_part_0_17 rc y0 u = some (r, u')) (hP : va_P D vwCl (VM cy ad st u) H) (hS : va_S (Ax (AM ad) s.heap.size) s.heap H locs) (hl : lv_has ls 5 [(0, .ref (ad 0))]) : W p l e (rmX12conditiong (dd + 1)) s m args below meth c H locs 0 0 (MQ below (Qi D (VM cy ad st) (AM ad) s.heap.size r u') args s 0 0 (Ax (AM ad) s.heap.size)) (F0 m 17 ls [.int y0]) := by
  unfold GX12_part_0_17 at h
  refine lv_istore_n (lv' := [(3, .int y0), (0, .ref (ad 0))]) C.1 C.2.1 dX12_part_17 rfl hl (by decide) rfl (fun ls hl => ?_)
  replace hl := lv_sub (l' := [(0, .ref (ad 0)), (3, .int y0)]) hl [1, 0] rfl
  exact wLX12_part_0_18 C hK hJ hrc  5000 _ _ _ _ _ h hP hS hl
set_option maxHeartbeats 4000000 in
set_option maxRecDepth 100000 in
theorem wX12_part_0 {p : Program} {l : Launch} {e : Env} {s : State} {m : MethodId} {args : Array Value} {below : List Frame} {meth : Method} {c : Code} {D : va_G} {cy : Nat → ClassId} {ad st : Nat → Nat} (C : Cx RX12 cX12_part 5 (some .boolean) wsX12_part p s m args meth c) (hK : Ky D [(cy 0, .int), (cy 1, .long), (cy 2, .boolean), (cy 3, .byte), (cy 4, .object "HissHorn$Text")] st s) (hJ : JM ad st) {rc : Nat → Int32 → Int32 → SX → Option (Int32 × SX)} {dd : Nat} (hrc : hRX12conditiong l D cy ad st rc dd) (x1 : Int32) (x2 : Int32) {u : SX} {r : Int32} {u' : SX} {H : Heap} {locs : List Loc} {ls : Array Slot} (h : fX12_part_0 rc x1 x2 u = some (r, u')) (hP : va_P D vwCl (VM cy ad st u) H) (hS : va_S (Ax (AM ad) s.heap.size) s.heap H locs) (hl : lv_has ls 5 [(0, .ref (ad 0)), (1, .int x1), (2, .int x2)]) : W p l e (rmX12conditiong (dd + 1)) s m args below meth c H locs 0 0 (MQ below (Qi D (VM cy ad st) (AM ad) s.heap.size r u') args s 0 0 (Ax (AM ad) s.heap.size)) (F0 m 0 ls []) := by
  unfold fX12_part_0 at h
  refine lv_iload_n C.1 C.2.1 dX12_part_0 rfl (lv_at hl 1 rfl) ?_
  refine lv_if_eq (tgt := 13) C.1 C.2.1 dX12_part_1 (by decide) (fun c1 => ?_) (fun c1 => ?_)
  · rw [if_pos c1] at h
    refine lv_aload_n C.1 C.2.1 dX12_part_13 rfl (lv_at hl 0 rfl) ?_
    obtain ⟨⟨r1, u2⟩, hc3, h⟩ := bd_some h
    try dsimp only at h
    refine cg_i (As := []) (rest := []) (AM_ge hJ) C hK hP hS (hrc.2.2 _  _ _ _ hc3) (cwV 0 C.2.2.2.2.2.1 gX12_part_X12_unit rfl rfl rfl (by decide +kernel) ⟨rmX12conditiong_sf dd, rmX12conditiong_sl dd (k := 8 + (3 + 11)) (Nat.le_of_ble_eq_true rfl)⟩) 0 12 rfl rfl rfl hl.1 rfl (Nat.le_of_ble_eq_true rfl) dX12_part_14 ⟨Nat.zero_le _, Nat.zero_le _⟩ (fun H locs hP hS => ?_)
    exact wGX12_part_0_17 C hK hJ hrc _ _ _ _ _ h hP hS (lv_sub hl [0] rfl)
  · rw [if_neg c1] at h
    refine lv_aload_n C.1 C.2.1 dX12_part_4 rfl (lv_at hl 0 rfl) ?_
    refine lv_iconst (v := 1) C.1 C.2.1 dX12_part_5 (by decide) ?_
    refine lv_iload_n C.1 C.2.1 dX12_part_6 rfl (lv_at hl 2 rfl) ?_
    obtain ⟨⟨r14, u15⟩, hc16, h⟩ := bd_some h
    try dsimp only at h
    refine cg_i (As := [.int 1, .int x2]) (rest := []) (AM_ge hJ) C hK hP hS (metX12_compares_0 l D cy ad st hJ _ 1 x2 hc16) (cwV 2 C.2.2.2.2.2.1 gX12_part_X12_compares rfl rfl rfl (by decide +kernel) ⟨(Nat.le_trans (m := 70) (Nat.le_of_ble_eq_true rfl) (rmX12conditiong_f _)), (Nat.le_trans (m := 4236) (Nat.le_of_ble_eq_true rfl) (rmX12conditiong_l _))⟩) 0 12 rfl rfl rfl hl.1 rfl (Nat.le_of_ble_eq_true rfl) dX12_part_7 ⟨Nat.zero_le _, Nat.zero_le _⟩ (fun H locs hP hS => ?_)
    refine lv_goto (tgt := 17) C.1 C.2.1 dX12_part_10 (by decide) ?_
    exact wGX12_part_0_17 C hK hJ hrc _ _ _ _ _ h hP hS (lv_sub hl [0] rfl)
