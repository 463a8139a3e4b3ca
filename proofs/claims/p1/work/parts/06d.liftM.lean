theorem dX12_layWorthsOf_0 : decode cX12_layWorthsOf 0 = .ok (.aload_n 0, 1) := by decide +kernel
theorem dX12_layWorthsOf_1 : decode cX12_layWorthsOf 1 = .ok (.aload_n 0, 1) := by decide +kernel
theorem dX12_layWorthsOf_2 : decode cX12_layWorthsOf 2 = .ok (.iload_n 1, 1) := by decide +kernel
theorem dX12_layWorthsOf_3 : decode cX12_layWorthsOf 3 = .ok (.iconst 0, 1) := by decide +kernel
set_option maxRecDepth 20000 in
theorem ggX12_layWorthsOf_X12_aimOf : GoodIn wsX12_layWorthsOf wsX12_aimOf := goodIn_r _ [5, 6, 7, 8, 9, 4, 10, 201, 202, 203, 204, 205, 206, 207, 208, 209, 210, 211, 212, 213, 214, 215, 216, 217, 218, 219, 220, 221, 222, 223, 224, 225, 226, 227, 228, 229, 230, 231, 232, 233, 234, 235, 236, 237, 238, 239, 240, 241, 242, 243, 244, 245, 246, 247, 248, 249, 250, 251, 252, 253, 254, 255, 256, 257, 258, 259, 260, 261, 262, 263, 264, 265, 266, 267, 268, 269] (by decide +kernel) (by decide +kernel)
set_option maxRecDepth 20000 in
theorem gX12_layWorthsOf_X12_aimOf : GoodIn wsX12_layWorthsOf (wsV RX12 340 RX12 yX12_aimOf wsX12_aimOf) := goodIn_app (goodIn_of _ (by decide +kernel)) ggX12_layWorthsOf_X12_aimOf
theorem dX12_layWorthsOf_4 : decode cX12_layWorthsOf 4 = .ok (.invokevirtual 340, 3) := by decide +kernel
theorem dX12_layWorthsOf_7 : decode cX12_layWorthsOf 7 = .ok (.aload_n 0, 1) := by decide +kernel
theorem dX12_layWorthsOf_8 : decode cX12_layWorthsOf 8 = .ok (.iload_n 1, 1) := by decide +kernel
theorem dX12_layWorthsOf_9 : decode cX12_layWorthsOf 9 = .ok (.iconst 1, 1) := by decide +kernel
theorem dX12_layWorthsOf_10 : decode cX12_layWorthsOf 10 = .ok (.invokevirtual 340, 3) := by decide +kernel
theorem dX12_layWorthsOf_13 : decode cX12_layWorthsOf 13 = .ok (.aload_n 0, 1) := by decide +kernel
theorem dX12_layWorthsOf_14 : decode cX12_layWorthsOf 14 = .ok (.iload_n 1, 1) := by decide +kernel
theorem dX12_layWorthsOf_15 : decode cX12_layWorthsOf 15 = .ok (.iconst 2, 1) := by decide +kernel
theorem dX12_layWorthsOf_16 : decode cX12_layWorthsOf 16 = .ok (.invokevirtual 340, 3) := by decide +kernel
theorem dX12_layWorthsOf_19 : decode cX12_layWorthsOf 19 = .ok (.aload_n 0, 1) := by decide +kernel
theorem dX12_layWorthsOf_20 : decode cX12_layWorthsOf 20 = .ok (.iload_n 1, 1) := by decide +kernel
theorem dX12_layWorthsOf_21 : decode cX12_layWorthsOf 21 = .ok (.iconst 3, 1) := by decide +kernel
theorem dX12_layWorthsOf_22 : decode cX12_layWorthsOf 22 = .ok (.invokevirtual 340, 3) := by decide +kernel
theorem dX12_layWorthsOf_25 : decode cX12_layWorthsOf 25 = .ok (.aload_n 0, 1) := by decide +kernel
theorem dX12_layWorthsOf_26 : decode cX12_layWorthsOf 26 = .ok (.iload_n 1, 1) := by decide +kernel
theorem dX12_layWorthsOf_27 : decode cX12_layWorthsOf 27 = .ok (.iconst 4, 1) := by decide +kernel
theorem dX12_layWorthsOf_28 : decode cX12_layWorthsOf 28 = .ok (.invokevirtual 340, 3) := by decide +kernel
theorem dX12_layWorthsOf_31 : decode cX12_layWorthsOf 31 = .ok (.aload_n 0, 1) := by decide +kernel
theorem dX12_layWorthsOf_32 : decode cX12_layWorthsOf 32 = .ok (.iload_n 1, 1) := by decide +kernel
theorem dX12_layWorthsOf_33 : decode cX12_layWorthsOf 33 = .ok (.iconst 5, 1) := by decide +kernel
theorem dX12_layWorthsOf_34 : decode cX12_layWorthsOf 34 = .ok (.invokevirtual 340, 3) := by decide +kernel
set_option maxRecDepth 20000 in
theorem ggX12_layWorthsOf_X12_layWorths : GoodIn wsX12_layWorthsOf wsX12_layWorths := goodIn_r _ [14, 15, 16, 17, 18, 19, 20, 4, 21, 22, 23, 24, 25, 26, 27, 28, 29, 30, 31, 32, 33, 34, 35, 36, 37, 38, 39, 40, 41, 42, 43, 44, 45, 46, 47, 48, 49, 50, 51, 52, 53, 54, 55, 56, 57, 58, 59, 60, 61, 62, 63, 64, 65, 66, 67, 68, 69, 70, 71, 72, 73, 74, 75, 76, 77, 78, 79, 80, 81, 82, 83, 84, 85, 86, 87, 88, 89, 90, 91, 92, 93, 94, 95, 96, 97, 98, 99, 100, 101, 102, 103, 104, 105, 106, 107, 108, 109, 110, 111, 112, 113, 114, 115, 116, 117, 118, 119, 120, 121, 122, 123, 124, 125, 126, 127, 128, 129, 130, 131, 132, 133, 134, 135, 136, 137, 138, 139, 140, 141, 142, 143, 144, 145, 146, 147, 148, 149, 150, 151, 152, 153, 154, 155, 156, 157, 158, 159, 160, 161, 162, 163, 164, 165, 166, 167, 168, 169, 170, 171, 172, 173, 174, 175, 176, 177, 178, 179, 180, 181, 182, 183, 184, 185, 186, 187, 188, 189, 190, 191, 192, 193, 194, 195, 196, 197, 198, 199, 200, 201, 202, 203, 204, 205, 206, 207, 208, 209, 210, 211, 212, 213, 214, 215, 216, 217, 218, 219, 220, 221, 222, 223, 224, 225, 226, 227, 228, 229, 230, 231, 232, 233, 234, 235, 236, 237, 238, 239, 240, 241, 242, 243, 244, 245, 246, 247, 248, 249, 250, 251, 252, 253, 254, 255, 256, 257, 258, 259, 260, 261, 262, 263, 264, 265, 266, 267, 268, 269] (by decide +kernel) (by decide +kernel)
set_option maxRecDepth 20000 in
theorem gX12_layWorthsOf_X12_layWorths : GoodIn wsX12_layWorthsOf (wsV RX12 319 RX12 yX12_layWorths wsX12_layWorths) := goodIn_app (goodIn_of _ (by decide +kernel)) ggX12_layWorthsOf_X12_layWorths
theorem dX12_layWorthsOf_37 : decode cX12_layWorthsOf 37 = .ok (.invokevirtual 319, 3) := by decide +kernel
theorem dX12_layWorthsOf_40 : decode cX12_layWorthsOf 40 = .ok (.return_, 1) := by decide +kernel
/-- HissHornModel.layWorthsOf(I)V of cell 0 -/
def rmX12_layWorthsOf_0 : Room := { frames := 138, cells := 0, slots := 0, locals := 8431 }
def fX12_layWorthsOf_0 (x1 : Int32) (u : SX) : Option (Int32 × SX) := ((fX12_aimOf_0 x1 0 u).bind fun q => match q with | (r1, u2) => ((fX12_aimOf_0 x1 1 u2).bind fun q => match q with | (r4, u5) => ((fX12_aimOf_0 x1 2 u5).bind fun q => match q with | (r7, u8) => ((fX12_aimOf_0 x1 3 u8).bind fun q => match q with | (r10, u11) => ((fX12_aimOf_0 x1 4 u11).bind fun q => match q with | (r13, u14) => ((fX12_aimOf_0 x1 5 u14).bind fun q => match q with | (r16, u17) => ((fX12_layWorths_0 r1 r4 r7 r10 r13 r16 u17).bind fun q => match q with | (r19, u20) => (some (0, u20)))))))))
set_option maxHeartbeats 4000000 in
set_option maxRecDepth 100000 in
theorem wX12_layWorthsOf_0 {p : Program} {l : Launch} {e : Env} {s : State} {m : MethodId} {args : Array Value} {below : List Frame} {meth : Method} {c : Code} {D : va_G} {cy : Nat → ClassId} {ad st : Nat → Nat} (C : Cx RX12 cX12_layWorthsOf 2 none wsX12_layWorthsOf p s m args meth c) (hK : Kx D [(cy 0, .int), (cy 1, .long), (cy 2, .boolean), (cy 3, .byte), (cy 4, .object "HissHorn$Text")] st s) (hJ : JM ad) (x1 : Int32) {u : SX} {r : Int32} {u' : SX} {H : Heap} {locs : List Loc} {ls : Array Slot} (h : fX12_layWorthsOf_0 x1 u = some (r, u')) (hP : va_P D vwCl (VM cy ad st u) H) (hS : va_S (Ax (AM ad) s.heap.size) s.heap H locs) (hl : lv_has ls 2 [(0, .ref (ad 0)), (1, .int x1)]) : W p l e rmX12_layWorthsOf_0 s m args below meth c H locs 0 0 (MQ below (Qv D (VM cy ad st) (AM ad) s.heap.size r u') args s 0 0 (Ax (AM ad) s.heap.size)) (F0 m 0 ls []) := by
  unfold fX12_layWorthsOf_0 at h
  refine lv_aload_n C.1 C.2.1 dX12_layWorthsOf_0 rfl (lv_at hl 0 rfl) ?_
  refine lv_aload_n C.1 C.2.1 dX12_layWorthsOf_1 rfl (lv_at hl 0 rfl) ?_
  refine lv_iload_n C.1 C.2.1 dX12_layWorthsOf_2 rfl (lv_at hl 1 rfl) ?_
  refine lv_iconst (v := 0) C.1 C.2.1 dX12_layWorthsOf_3 (by decide) ?_
  obtain ⟨⟨r1, u2⟩, hc3, h⟩ := bd_some h
  try dsimp only at h
  refine cg_i (As := [.int x1, .int 0]) (rest := [.ref (ad 0)]) C hK hP hS (metX12_aimOf_0 l D cy ad st hJ _ x1 0 hc3) (cwV 2 C.2.2.2.2.2.1 gX12_layWorthsOf_X12_aimOf rfl rfl rfl (by decide +kernel) ⟨(Nat.le_of_ble_eq_true rfl), (Nat.le_of_ble_eq_true rfl)⟩) 0 12 rfl rfl rfl hl.1 rfl (Nat.le_of_ble_eq_true rfl) dX12_layWorthsOf_4 ⟨Nat.zero_le _, Nat.zero_le _⟩ (fun H locs hP hS => ?_)
  refine lv_aload_n C.1 C.2.1 dX12_layWorthsOf_7 rfl (lv_at hl 0 rfl) ?_
  refine lv_iload_n C.1 C.2.1 dX12_layWorthsOf_8 rfl (lv_at hl 1 rfl) ?_
  refine lv_iconst (v := 1) C.1 C.2.1 dX12_layWorthsOf_9 (by decide) ?_
  obtain ⟨⟨r4, u5⟩, hc6, h⟩ := bd_some h
  try dsimp only at h
  refine cg_i (As := [.int x1, .int 1]) (rest := [.int r1, .ref (ad 0)]) C hK hP hS (metX12_aimOf_0 l D cy ad st hJ _ x1 1 hc6) (cwV 2 C.2.2.2.2.2.1 gX12_layWorthsOf_X12_aimOf rfl rfl rfl (by decide +kernel) ⟨(Nat.le_of_ble_eq_true rfl), (Nat.le_of_ble_eq_true rfl)⟩) 0 12 rfl rfl rfl hl.1 rfl (Nat.le_of_ble_eq_true rfl) dX12_layWorthsOf_10 ⟨Nat.zero_le _, Nat.zero_le _⟩ (fun H locs hP hS => ?_)
  refine lv_aload_n C.1 C.2.1 dX12_layWorthsOf_13 rfl (lv_at hl 0 rfl) ?_
  refine lv_iload_n C.1 C.2.1 dX12_layWorthsOf_14 rfl (lv_at hl 1 rfl) ?_
  refine lv_iconst (v := 2) C.1 C.2.1 dX12_layWorthsOf_15 (by decide) ?_
  obtain ⟨⟨r7, u8⟩, hc9, h⟩ := bd_some h
  try dsimp only at h
  refine cg_i (As := [.int x1, .int 2]) (rest := [.int r4, .int r1, .ref (ad 0)]) C hK hP hS (metX12_aimOf_0 l D cy ad st hJ _ x1 2 hc9) (cwV 2 C.2.2.2.2.2.1 gX12_layWorthsOf_X12_aimOf rfl rfl rfl (by decide +kernel) ⟨(Nat.le_of_ble_eq_true rfl), (Nat.le_of_ble_eq_true rfl)⟩) 0 12 rfl rfl rfl hl.1 rfl (Nat.le_of_ble_eq_true rfl) dX12_layWorthsOf_16 ⟨Nat.zero_le _, Nat.zero_le _⟩ (fun H locs hP hS => ?_)
  refine lv_aload_n C.1 C.2.1 dX12_layWorthsOf_19 rfl (lv_at hl 0 rfl) ?_
  refine lv_iload_n C.1 C.2.1 dX12_layWorthsOf_20 rfl (lv_at hl 1 rfl) ?_
  refine lv_iconst (v := 3) C.1 C.2.1 dX12_layWorthsOf_21 (by decide) ?_
  obtain ⟨⟨r10, u11⟩, hc12, h⟩ := bd_some h
  try dsimp only at h
  refine cg_i (As := [.int x1, .int 3]) (rest := [.int r7, .int r4, .int r1, .ref (ad 0)]) C hK hP hS (metX12_aimOf_0 l D cy ad st hJ _ x1 3 hc12) (cwV 2 C.2.2.2.2.2.1 gX12_layWorthsOf_X12_aimOf rfl rfl rfl (by decide +kernel) ⟨(Nat.le_of_ble_eq_true rfl), (Nat.le_of_ble_eq_true rfl)⟩) 0 12 rfl rfl rfl hl.1 rfl (Nat.le_of_ble_eq_true rfl) dX12_layWorthsOf_22 ⟨Nat.zero_le _, Nat.zero_le _⟩ (fun H locs hP hS => ?_)
  refine lv_aload_n C.1 C.2.1 dX12_layWorthsOf_25 rfl (lv_at hl 0 rfl) ?_
  refine lv_iload_n C.1 C.2.1 dX12_layWorthsOf_26 rfl (lv_at hl 1 rfl) ?_
  refine lv_iconst (v := 4) C.1 C.2.1 dX12_layWorthsOf_27 (by decide) ?_
  obtain ⟨⟨r13, u14⟩, hc15, h⟩ := bd_some h
  try dsimp only at h
  refine cg_i (As := [.int x1, .int 4]) (rest := [.int r10, .int r7, .int r4, .int r1, .ref (ad 0)]) C hK hP hS (metX12_aimOf_0 l D cy ad st hJ _ x1 4 hc15) (cwV 2 C.2.2.2.2.2.1 gX12_layWorthsOf_X12_aimOf rfl rfl rfl (by decide +kernel) ⟨(Nat.le_of_ble_eq_true rfl), (Nat.le_of_ble_eq_true rfl)⟩) 0 12 rfl rfl rfl hl.1 rfl (Nat.le_of_ble_eq_true rfl) dX12_layWorthsOf_28 ⟨Nat.zero_le _, Nat.zero_le _⟩ (fun H locs hP hS => ?_)
  refine lv_aload_n C.1 C.2.1 dX12_layWorthsOf_31 rfl (lv_at hl 0 rfl) ?_
  refine lv_iload_n C.1 C.2.1 dX12_layWorthsOf_32 rfl (lv_at hl 1 rfl) ?_
  refine lv_iconst (v := 5) C.1 C.2.1 dX12_layWorthsOf_33 (by decide) ?_
  obtain ⟨⟨r16, u17⟩, hc18, h⟩ := bd_some h
  try dsimp only at h
  refine cg_i (As := [.int x1, .int 5]) (rest := [.int r13, .int r10, .int r7, .int r4, .int r1, .ref (ad 0)]) C hK hP hS (metX12_aimOf_0 l D cy ad st hJ _ x1 5 hc18) (cwV 2 C.2.2.2.2.2.1 gX12_layWorthsOf_X12_aimOf rfl rfl rfl (by decide +kernel) ⟨(Nat.le_of_ble_eq_true rfl), (Nat.le_of_ble_eq_true rfl)⟩) 0 12 rfl rfl rfl hl.1 rfl (Nat.le_of_ble_eq_true rfl) dX12_layWorthsOf_34 ⟨Nat.zero_le _, Nat.zero_le _⟩ (fun H locs hP hS => ?_)
  obtain ⟨⟨r19, u20⟩, hc21, h⟩ := bd_some h
  try dsimp only at h
  refine cg_v (As := [.int r1, .int r4, .int r7, .int r10, .int r13, .int r16]) (rest := []) C hK hP hS (metX12_layWorths_0 l D cy ad st hJ _ r1 r4 r7 r10 r13 r16 hc21) (cwV 6 C.2.2.2.2.2.1 gX12_layWorthsOf_X12_layWorths rfl rfl rfl (by decide +kernel) ⟨(Nat.le_of_ble_eq_true rfl), (Nat.le_of_ble_eq_true rfl)⟩) 0 12 rfl rfl rfl hl.1 rfl (Nat.le_of_ble_eq_true rfl) dX12_layWorthsOf_37 ⟨Nat.zero_le _, Nat.zero_le _⟩ (fun H locs hP hS => ?_)
  cases h
  exact rt_v C hP hS dX12_layWorthsOf_40
theorem metX12_layWorthsOf_0 (l : Launch) (D : va_G) (cy : Nat → ClassId) (ad st : Nat → Nat) (hJ : JM ad) (sz : Nat) (x1 : Int32) {u : SX} {r : Int32} {u' : SX} (h : fX12_layWorthsOf_0 x1 u = some (r, u')) : Met l yX12_layWorthsOf wsX12_layWorthsOf rmX12_layWorthsOf_0 (va_Pc [.ref (ad 0), .int x1] (Px D [(cy 0, .int), (cy 1, .long), (cy 2, .boolean), (cy 3, .byte), (cy 4, .object "HissHorn$Text")] st (VM cy ad st) sz u)) (Qv D (VM cy ad st) (AM ad) sz r u') 0 0 (Ax (AM ad) sz) := by
  refine Met.ofW (cc := cX12_layWorthsOf) (maxL := 2) (ret := none) (by decide) rfl ?_
  intro p e s m args below meth c s₁ B hml hv
  obtain ⟨rfl, hsz, hP, hK⟩ := hv
  subst hsz
  have C : Cx RX12 cX12_layWorthsOf 2 none wsX12_layWorthsOf p s m _ meth c := ⟨B.exec, B.bytes, hml, B.returns, findClass_of_methodNamed B.named, atoms_spec (ws := wsX12_layWorthsOf) B.pre, B.notSynchronized⟩
  have hl := lv_entry ([.ref (ad 0), .int x1]) (n := 2) (Nat.le_of_ble_eq_true rfl)
  rw [lg_entry_eq]
  exact wX12_layWorthsOf_0 C hK hJ x1 h hP va_S.rf hl

theorem dX12_most_0 : decode cX12_most 0 = .ok (.aload_n 0, 1) := by decide +kernel
theorem dX12_most_1 : decode cX12_most 1 = .ok (.getfield 65, 3) := by decide +kernel
theorem dX12_most_4 : decode cX12_most 4 = .ok (.iload_n 1, 1) := by decide +kernel
theorem dX12_most_5 : decode cX12_most 5 = .ok (.iaload, 1) := by decide +kernel
theorem dX12_most_6 : decode cX12_most 6 = .ok (.aload_n 0, 1) := by decide +kernel
theorem dX12_most_7 : decode cX12_most 7 = .ok (.getfield 71, 3) := by decide +kernel
theorem dX12_most_10 : decode cX12_most 10 = .ok (.iload_n 1, 1) := by decide +kernel
theorem dX12_most_11 : decode cX12_most 11 = .ok (.iaload, 1) := by decide +kernel
set_option maxRecDepth 20000 in
theorem ggX12_most_X12_shines : GoodIn wsX12_most wsX12_shines := goodIn_r _ [11] (by decide +kernel) (by decide +kernel)
set_option maxRecDepth 20000 in
theorem gX12_most_X12_shines : GoodIn wsX12_most (va_wsS RX12 323 yX12_shines wsX12_shines) := goodIn_app (goodIn_of _ (by decide +kernel)) ggX12_most_X12_shines
theorem dX12_most_12 : decode cX12_most 12 = .ok (.invokestatic 323, 3) := by decide +kernel
theorem dX12_most_15 : decode cX12_most 15 = .ok (.aload_n 0, 1) := by decide +kernel
theorem dX12_most_16 : decode cX12_most 16 = .ok (.getfield 68, 3) := by decide +kernel
theorem dX12_most_19 : decode cX12_most 19 = .ok (.iload_n 1, 1) := by decide +kernel
theorem dX12_most_20 : decode cX12_most 20 = .ok (.iaload, 1) := by decide +kernel
theorem dX12_most_21 : decode cX12_most 21 = .ok (.aload_n 0, 1) := by decide +kernel
theorem dX12_most_22 : decode cX12_most 22 = .ok (.getfield 71, 3) := by decide +kernel
theorem dX12_most_25 : decode cX12_most 25 = .ok (.iload_n 1, 1) := by decide +kernel
theorem dX12_most_26 : decode cX12_most 26 = .ok (.iaload, 1) := by decide +kernel
theorem dX12_most_27 : decode cX12_most 27 = .ok (.invokestatic 323, 3) := by decide +kernel
theorem dX12_most_30 : decode cX12_most 30 = .ok (.invokestatic 293, 3) := by decide +kernel
theorem dX12_most_33 : decode cX12_most 33 = .ok (.ireturn, 1) := by decide +kernel
/-- HissHornModel.most(I)I of cell 0 -/
def rmX12_most_0 : Room := { frames := 1, cells := 0, slots := 0, locals := 21 }
theorem hX12_most_0_X12 : ∀ w ∈ u_ws RX12 TX12 69, w ∈ wsX12_most := fun w h => (List.mem_cons_of_mem _ (List.mem_append_right _ h))
theorem mX12_most_0_1 : Cond.fieldLink RX12 65 "HissHornModel" "from" "[I" ∈ wsX12_most := (List.mem_cons_of_mem _ (List.mem_append_left _ (List.mem_of_getElem? (i := 0) rfl)))
theorem mX12_most_0_2 : Cond.fieldLink RX12 71 "HissHornModel" "worths" "[I" ∈ wsX12_most := (List.mem_cons_of_mem _ (List.mem_append_left _ (List.mem_of_getElem? (i := 1) rfl)))
theorem mX12_most_0_3 : Cond.fieldLink RX12 68 "HissHornModel" "to" "[I" ∈ wsX12_most := (List.mem_cons_of_mem _ (List.mem_append_left _ (List.mem_of_getElem? (i := 2) rfl)))
theorem mX12_most_0_4 : Cond.methodLink RX12 293 Lib.Math.max.name ∈ wsX12_most := (List.mem_cons_of_mem _ (List.mem_append_left _ (List.mem_of_getElem? (i := 3) rfl)))
theorem mX12_most_0_5 : Cond.static Lib.Math.max.name ∈ wsX12_most := (List.mem_cons_of_mem _ (List.mem_append_left _ (List.mem_of_getElem? (i := 4) rfl)))
theorem mX12_most_0_6 : Cond.initialized "java/lang/Math" ∈ wsX12_most := (List.mem_cons_of_mem _ (List.mem_append_left _ (List.mem_of_getElem? (i := 5) rfl)))
theorem mX12_most_0_7 : Cond.code Lib.Math.max.name Lib.Math.max.code 2 (some .int) ∈ wsX12_most := (List.mem_cons_of_mem _ (List.mem_append_left _ (List.mem_of_getElem? (i := 6) rfl)))
def fX12_most_0 (x1 : Int32) (u : SX) : Option (Int32 × SX) := (gd (inb x1 12) (gd (inb x1 12) ((fX12_shines (u.2.1 16 x1.toNatClampNeg) (u.2.1 18 x1.toNatClampNeg)).bind fun r3 => (gd (inb x1 12) (gd (inb x1 12) ((fX12_shines (u.2.1 17 x1.toNatClampNeg) (u.2.1 18 x1.toNatClampNeg)).bind fun r8 => (some (if r3 < r8 then r8 else r3, u))))))))
set_option maxHeartbeats 4000000 in
set_option maxRecDepth 100000 in
theorem wX12_most_0 {p : Program} {l : Launch} {e : Env} {s : State} {m : MethodId} {args : Array Value} {below : List Frame} {meth : Method} {c : Code} {D : va_G} {cy : Nat → ClassId} {ad st : Nat → Nat} (C : Cx RX12 cX12_most 2 (some .int) wsX12_most p s m args meth c) (hK : Kx D [(cy 0, .int), (cy 1, .long), (cy 2, .boolean), (cy 3, .byte), (cy 4, .object "HissHorn$Text")] st s) (hJ : JM ad) (x1 : Int32) {u : SX} {r : Int32} {u' : SX} {H : Heap} {locs : List Loc} {ls : Array Slot} (h : fX12_most_0 x1 u = some (r, u')) (hP : va_P D vwCl (VM cy ad st u) H) (hS : va_S (Ax (AM ad) s.heap.size) s.heap H locs) (hl : lv_has ls 2 [(0, .ref (ad 0)), (1, .int x1)]) : W p l e rmX12_most_0 s m args below meth c H locs 0 0 (MQ below (Qi D (VM cy ad st) (AM ad) s.heap.size r u') args s 0 0 (Ax (AM ad) s.heap.size)) (F0 m 0 ls []) := by
  unfold fX12_most_0 at h
  refine lv_aload_n C.1 C.2.1 dX12_most_0 rfl (lv_at hl 0 rfl) ?_
  refine gM_0_from C hX12_most_0_X12 hK hP mX12_most_0_1 dX12_most_1 ?_
  refine lv_iload_n C.1 C.2.1 dX12_most_4 rfl (lv_at hl 1 rfl) ?_
  obtain ⟨hg1, h⟩ := gd_some h
  refine lM_16 C hK hP hg1 dX12_most_5 ?_
  refine lv_aload_n C.1 C.2.1 dX12_most_6 rfl (lv_at hl 0 rfl) ?_
  refine gM_0_worths C hX12_most_0_X12 hK hP mX12_most_0_2 dX12_most_7 ?_
  refine lv_iload_n C.1 C.2.1 dX12_most_10 rfl (lv_at hl 1 rfl) ?_
  obtain ⟨hg2, h⟩ := gd_some h
  refine lM_18 C hK hP hg2 dX12_most_11 ?_
  obtain ⟨r3, hc5, h⟩ := bd_some h
  refine cs_i (As := [.int (u.2.1 16 x1.toNatClampNeg), .int (u.2.1 18 x1.toNatClampNeg)]) (rest := []) C hK hP hS (metX12_shines l D cy st _ (u.2.1 16 x1.toNatClampNeg) (u.2.1 18 x1.toNatClampNeg) hc5) (va_cwS 2 C.2.2.2.2.2.1 gX12_most_X12_shines rfl rfl rfl (by decide +kernel) ⟨(Nat.le_of_ble_eq_true rfl), (Nat.le_of_ble_eq_true rfl)⟩) rfl hl.1 rfl (Nat.le_of_ble_eq_true rfl) dX12_most_12 ⟨Nat.zero_le _, Nat.zero_le _⟩ (fun H locs hP hS => ?_)
  refine lv_aload_n C.1 C.2.1 dX12_most_15 rfl (lv_at hl 0 rfl) ?_
  refine gM_0_to C hX12_most_0_X12 hK hP mX12_most_0_3 dX12_most_16 ?_
  refine lv_iload_n C.1 C.2.1 dX12_most_19 rfl (lv_at hl 1 rfl) ?_
  obtain ⟨hg6, h⟩ := gd_some h
  refine lM_17 C hK hP hg6 dX12_most_20 ?_
  refine lv_aload_n C.1 C.2.1 dX12_most_21 rfl (lv_at hl 0 rfl) ?_
  refine gM_0_worths C hX12_most_0_X12 hK hP mX12_most_0_2 dX12_most_22 ?_
  refine lv_iload_n C.1 C.2.1 dX12_most_25 rfl (lv_at hl 1 rfl) ?_
  obtain ⟨hg7, h⟩ := gd_some h
  refine lM_18 C hK hP hg7 dX12_most_26 ?_
  obtain ⟨r8, hc10, h⟩ := bd_some h
  refine cs_i (As := [.int (u.2.1 17 x1.toNatClampNeg), .int (u.2.1 18 x1.toNatClampNeg)]) (rest := [.int r3]) C hK hP hS (metX12_shines l D cy st _ (u.2.1 17 x1.toNatClampNeg) (u.2.1 18 x1.toNatClampNeg) hc10) (va_cwS 2 C.2.2.2.2.2.1 gX12_most_X12_shines rfl rfl rfl (by decide +kernel) ⟨(Nat.le_of_ble_eq_true rfl), (Nat.le_of_ble_eq_true rfl)⟩) rfl hl.1 rfl (Nat.le_of_ble_eq_true rfl) dX12_most_27 ⟨Nat.zero_le _, Nat.zero_le _⟩ (fun H locs hP hS => ?_)
  refine va_mmax C.1 C.2.1 (C.2.2.1.trans hl.1.symm) C.2.2.2.2.1 (C.2.2.2.2.2.1 _ mX12_most_0_4) (C.2.2.2.2.2.1 _ mX12_most_0_5) (C.2.2.2.2.2.1 _ mX12_most_0_6) (C.2.2.2.2.2.1 _ mX12_most_0_7) (Nat.le_of_ble_eq_true rfl) (Nat.le_of_ble_eq_true rfl) (Nat.zero_le _) (Nat.zero_le _) dX12_most_30 ?_
  cases h
  exact rt_i C hP hS dX12_most_33
theorem metX12_most_0 (l : Launch) (D : va_G) (cy : Nat → ClassId) (ad st : Nat → Nat) (hJ : JM ad) (sz : Nat) (x1 : Int32) {u : SX} {r : Int32} {u' : SX} (h : fX12_most_0 x1 u = some (r, u')) : Met l yX12_most wsX12_most rmX12_most_0 (va_Pc [.ref (ad 0), .int x1] (Px D [(cy 0, .int), (cy 1, .long), (cy 2, .boolean), (cy 3, .byte), (cy 4, .object "HissHorn$Text")] st (VM cy ad st) sz u)) (Qi D (VM cy ad st) (AM ad) sz r u') 0 0 (Ax (AM ad) sz) := by
  refine Met.ofW (cc := cX12_most) (maxL := 2) (ret := (some .int)) (by decide) rfl ?_
  intro p e s m args below meth c s₁ B hml hv
  obtain ⟨rfl, hsz, hP, hK⟩ := hv
  subst hsz
  have C : Cx RX12 cX12_most 2 (some .int) wsX12_most p s m _ meth c := ⟨B.exec, B.bytes, hml, B.returns, findClass_of_methodNamed B.named, atoms_spec (ws := wsX12_most) B.pre, B.notSynchronized⟩
  have hl := lv_entry ([.ref (ad 0), .int x1]) (n := 2) (Nat.le_of_ble_eq_true rfl)
  rw [lg_entry_eq]
  exact wX12_most_0 C hK hJ x1 h hP va_S.rf hl

theorem dX12_least_0 : decode cX12_least 0 = .ok (.aload_n 0, 1) := by decide +kernel
theorem dX12_least_1 : decode cX12_least 1 = .ok (.getfield 65, 3) := by decide +kernel
theorem dX12_least_4 : decode cX12_least 4 = .ok (.iload_n 1, 1) := by decide +kernel
theorem dX12_least_5 : decode cX12_least 5 = .ok (.iaload, 1) := by decide +kernel
theorem dX12_least_6 : decode cX12_least 6 = .ok (.aload_n 0, 1) := by decide +kernel
theorem dX12_least_7 : decode cX12_least 7 = .ok (.getfield 71, 3) := by decide +kernel
theorem dX12_least_10 : decode cX12_least 10 = .ok (.iload_n 1, 1) := by decide +kernel
theorem dX12_least_11 : decode cX12_least 11 = .ok (.iaload, 1) := by decide +kernel
set_option maxRecDepth 20000 in
theorem ggX12_least_X12_shines : GoodIn wsX12_least wsX12_shines := goodIn_r _ [11] (by decide +kernel) (by decide +kernel)
set_option maxRecDepth 20000 in
theorem gX12_least_X12_shines : GoodIn wsX12_least (va_wsS RX12 323 yX12_shines wsX12_shines) := goodIn_app (goodIn_of _ (by decide +kernel)) ggX12_least_X12_shines
theorem dX12_least_12 : decode cX12_least 12 = .ok (.invokestatic 323, 3) := by decide +kernel
theorem dX12_least_15 : decode cX12_least 15 = .ok (.aload_n 0, 1) := by decide +kernel
theorem dX12_least_16 : decode cX12_least 16 = .ok (.getfield 68, 3) := by decide +kernel
theorem dX12_least_19 : decode cX12_least 19 = .ok (.iload_n 1, 1) := by decide +kernel
theorem dX12_least_20 : decode cX12_least 20 = .ok (.iaload, 1) := by decide +kernel
theorem dX12_least_21 : decode cX12_least 21 = .ok (.aload_n 0, 1) := by decide +kernel
theorem dX12_least_22 : decode cX12_least 22 = .ok (.getfield 71, 3) := by decide +kernel
theorem dX12_least_25 : decode cX12_least 25 = .ok (.iload_n 1, 1) := by decide +kernel
theorem dX12_least_26 : decode cX12_least 26 = .ok (.iaload, 1) := by decide +kernel
theorem dX12_least_27 : decode cX12_least 27 = .ok (.invokestatic 323, 3) := by decide +kernel
theorem dX12_least_30 : decode cX12_least 30 = .ok (.invokestatic 295, 3) := by decide +kernel
theorem dX12_least_33 : decode cX12_least 33 = .ok (.ireturn, 1) := by decide +kernel
/-- HissHornModel.least(I)I of cell 0 -/
def rmX12_least_0 : Room := { frames := 1, cells := 0, slots := 0, locals := 21 }
theorem hX12_least_0_X12 : ∀ w ∈ u_ws RX12 TX12 69, w ∈ wsX12_least := fun w h => (List.mem_cons_of_mem _ (List.mem_append_right _ h))
theorem mX12_least_0_1 : Cond.fieldLink RX12 65 "HissHornModel" "from" "[I" ∈ wsX12_least := (List.mem_cons_of_mem _ (List.mem_append_left _ (List.mem_of_getElem? (i := 0) rfl)))
theorem mX12_least_0_2 : Cond.fieldLink RX12 71 "HissHornModel" "worths" "[I" ∈ wsX12_least := (List.mem_cons_of_mem _ (List.mem_append_left _ (List.mem_of_getElem? (i := 1) rfl)))
theorem mX12_least_0_3 : Cond.fieldLink RX12 68 "HissHornModel" "to" "[I" ∈ wsX12_least := (List.mem_cons_of_mem _ (List.mem_append_left _ (List.mem_of_getElem? (i := 2) rfl)))
theorem mX12_least_0_4 : Cond.methodLink RX12 295 Lib.Math.min.name ∈ wsX12_least := (List.mem_cons_of_mem _ (List.mem_append_left _ (List.mem_of_getElem? (i := 3) rfl)))
theorem mX12_least_0_5 : Cond.static Lib.Math.min.name ∈ wsX12_least := (List.mem_cons_of_mem _ (List.mem_append_left _ (List.mem_of_getElem? (i := 4) rfl)))
theorem mX12_least_0_6 : Cond.initialized "java/lang/Math" ∈ wsX12_least := (List.mem_cons_of_mem _ (List.mem_append_left _ (List.mem_of_getElem? (i := 5) rfl)))
theorem mX12_least_0_7 : Cond.code Lib.Math.min.name Lib.Math.min.code 2 (some .int) ∈ wsX12_least := (List.mem_cons_of_mem _ (List.mem_append_left _ (List.mem_of_getElem? (i := 6) rfl)))
def fX12_least_0 (x1 : Int32) (u : SX) : Option (Int32 × SX) := (gd (inb x1 12) (gd (inb x1 12) ((fX12_shines (u.2.1 16 x1.toNatClampNeg) (u.2.1 18 x1.toNatClampNeg)).bind fun r3 => (gd (inb x1 12) (gd (inb x1 12) ((fX12_shines (u.2.1 17 x1.toNatClampNeg) (u.2.1 18 x1.toNatClampNeg)).bind fun r8 => (some (if r8 < r3 then r8 else r3, u))))))))
set_option maxHeartbeats 4000000 in
set_option maxRecDepth 100000 in
theorem wX12_least_0 {p : Program} {l : Launch} {e : Env} {s : State} {m : MethodId} {args : Array Value} {below : List Frame} {meth : Method} {c : Code} {D : va_G} {cy : Nat → ClassId} {ad st : Nat → Nat} (C : Cx RX12 cX12_least 2 (some .int) wsX12_least p s m args meth c) (hK : Kx D [(cy 0, .int), (cy 1, .long), (cy 2, .boolean), (cy 3, .byte), (cy 4, .object "HissHorn$Text")] st s) (hJ : JM ad) (x1 : Int32) {u : SX} {r : Int32} {u' : SX} {H : Heap} {locs : List Loc} {ls : Array Slot} (h : fX12_least_0 x1 u = some (r, u')) (hP : va_P D vwCl (VM cy ad st u) H) (hS : va_S (Ax (AM ad) s.heap.size) s.heap H locs) (hl : lv_has ls 2 [(0, .ref (ad 0)), (1, .int x1)]) : W p l e rmX12_least_0 s m args below meth c H locs 0 0 (MQ below (Qi D (VM cy ad st) (AM ad) s.heap.size r u') args s 0 0 (Ax (AM ad) s.heap.size)) (F0 m 0 ls []) := by
  unfold fX12_least_0 at h
  refine lv_aload_n C.1 C.2.1 dX12_least_0 rfl (lv_at hl 0 rfl) ?_
  refine gM_0_from C hX12_least_0_X12 hK hP mX12_least_0_1 dX12_least_1 ?_
  refine lv_iload_n C.1 C.2.1 dX12_least_4 rfl (lv_at hl 1 rfl) ?_
  obtain ⟨hg1, h⟩ := gd_some h
  refine lM_16 C hK hP hg1 dX12_least_5 ?_
  refine lv_aload_n C.1 C.2.1 dX12_least_6 rfl (lv_at hl 0 rfl) ?_
  refine gM_0_worths C hX12_least_0_X12 hK hP mX12_least_0_2 dX12_least_7 ?_
  refine lv_iload_n C.1 C.2.1 dX12_least_10 rfl (lv_at hl 1 rfl) ?_
  obtain ⟨hg2, h⟩ := gd_some h
  refine lM_18 C hK hP hg2 dX12_least_11 ?_
  obtain ⟨r3, hc5, h⟩ := bd_some h
  refine cs_i (As := [.int (u.2.1 16 x1.toNatClampNeg), .int (u.2.1 18 x1.toNatClampNeg)]) (rest := []) C hK hP hS (metX12_shines l D cy st _ (u.2.1 16 x1.toNatClampNeg) (u.2.1 18 x1.toNatClampNeg) hc5) (va_cwS 2 C.2.2.2.2.2.1 gX12_least_X12_shines rfl rfl rfl (by decide +kernel) ⟨(Nat.le_of_ble_eq_true rfl), (Nat.le_of_ble_eq_true rfl)⟩) rfl hl.1 rfl (Nat.le_of_ble_eq_true rfl) dX12_least_12 ⟨Nat.zero_le _, Nat.zero_le _⟩ (fun H locs hP hS => ?_)
  refine lv_aload_n C.1 C.2.1 dX12_least_15 rfl (lv_at hl 0 rfl) ?_
  refine gM_0_to C hX12_least_0_X12 hK hP mX12_least_0_3 dX12_least_16 ?_
  refine lv_iload_n C.1 C.2.1 dX12_least_19 rfl (lv_at hl 1 rfl) ?_
  obtain ⟨hg6, h⟩ := gd_some h
  refine lM_17 C hK hP hg6 dX12_least_20 ?_
  refine lv_aload_n C.1 C.2.1 dX12_least_21 rfl (lv_at hl 0 rfl) ?_
  refine gM_0_worths C hX12_least_0_X12 hK hP mX12_least_0_2 dX12_least_22 ?_
  refine lv_iload_n C.1 C.2.1 dX12_least_25 rfl (lv_at hl 1 rfl) ?_
  obtain ⟨hg7, h⟩ := gd_some h
  refine lM_18 C hK hP hg7 dX12_least_26 ?_
  obtain ⟨r8, hc10, h⟩ := bd_some h
  refine cs_i (As := [.int (u.2.1 17 x1.toNatClampNeg), .int (u.2.1 18 x1.toNatClampNeg)]) (rest := [.int r3]) C hK hP hS (metX12_shines l D cy st _ (u.2.1 17 x1.toNatClampNeg) (u.2.1 18 x1.toNatClampNeg) hc10) (va_cwS 2 C.2.2.2.2.2.1 gX12_least_X12_shines rfl rfl rfl (by decide +kernel) ⟨(Nat.le_of_ble_eq_true rfl), (Nat.le_of_ble_eq_true rfl)⟩) rfl hl.1 rfl (Nat.le_of_ble_eq_true rfl) dX12_least_27 ⟨Nat.zero_le _, Nat.zero_le _⟩ (fun H locs hP hS => ?_)
  refine va_mmin C.1 C.2.1 (C.2.2.1.trans hl.1.symm) C.2.2.2.2.1 (C.2.2.2.2.2.1 _ mX12_least_0_4) (C.2.2.2.2.2.1 _ mX12_least_0_5) (C.2.2.2.2.2.1 _ mX12_least_0_6) (C.2.2.2.2.2.1 _ mX12_least_0_7) (Nat.le_of_ble_eq_true rfl) (Nat.le_of_ble_eq_true rfl) (Nat.zero_le _) (Nat.zero_le _) dX12_least_30 ?_
  cases h
  exact rt_i C hP hS dX12_least_33
theorem metX12_least_0 (l : Launch) (D : va_G) (cy : Nat → ClassId) (ad st : Nat → Nat) (hJ : JM ad) (sz : Nat) (x1 : Int32) {u : SX} {r : Int32} {u' : SX} (h : fX12_least_0 x1 u = some (r, u')) : Met l yX12_least wsX12_least rmX12_least_0 (va_Pc [.ref (ad 0), .int x1] (Px D [(cy 0, .int), (cy 1, .long), (cy 2, .boolean), (cy 3, .byte), (cy 4, .object "HissHorn$Text")] st (VM cy ad st) sz u)) (Qi D (VM cy ad st) (AM ad) sz r u') 0 0 (Ax (AM ad) sz) := by
  refine Met.ofW (cc := cX12_least) (maxL := 2) (ret := (some .int)) (by decide) rfl ?_
  intro p e s m args below meth c s₁ B hml hv
  obtain ⟨rfl, hsz, hP, hK⟩ := hv
  subst hsz
  have C : Cx RX12 cX12_least 2 (some .int) wsX12_least p s m _ meth c := ⟨B.exec, B.bytes, hml, B.returns, findClass_of_methodNamed B.named, atoms_spec (ws := wsX12_least) B.pre, B.notSynchronized⟩
  have hl := lv_entry ([.ref (ad 0), .int x1]) (n := 2) (Nat.le_of_ble_eq_true rfl)
  rw [lg_entry_eq]
  exact wX12_least_0 C hK hJ x1 h hP va_S.rf hl

theorem dX12_layLeft_76 : decode cX12_layLeft 76 = .ok (.iinc 3 1, 3) := by decide +kernel
theorem dX12_layLeft_79 : decode cX12_layLeft 79 = .ok (.goto (-52), 3) := by decide +kernel
theorem dX12_layLeft_27 : decode cX12_layLeft 27 = .ok (.iload_n 3, 1) := by decide +kernel
theorem dX12_layLeft_28 : decode cX12_layLeft 28 = .ok (.aload_n 0, 1) := by decide +kernel
theorem dX12_layLeft_29 : decode cX12_layLeft 29 = .ok (.getfield 286, 3) := by decide +kernel
theorem dX12_layLeft_32 : decode cX12_layLeft 32 = .ok (.if_icmp .ge 50, 3) := by decide +kernel
theorem dX12_layLeft_82 : decode cX12_layLeft 82 = .ok (.return_, 1) := by decide +kernel
theorem dX12_layLeft_35 : decode cX12_layLeft 35 = .ok (.aload_n 0, 1) := by decide +kernel
theorem dX12_layLeft_36 : decode cX12_layLeft 36 = .ok (.getfield 47, 3) := by decide +kernel
theorem dX12_layLeft_39 : decode cX12_layLeft 39 = .ok (.iload_n 3, 1) := by decide +kernel
theorem dX12_layLeft_40 : decode cX12_layLeft 40 = .ok (.iaload, 1) := by decide +kernel
theorem dX12_layLeft_41 : decode cX12_layLeft 41 = .ok (.iload_n 2, 1) := by decide +kernel
theorem dX12_layLeft_42 : decode cX12_layLeft 42 = .ok (.if_icmp .le 6, 3) := by decide +kernel
theorem dX12_layLeft_48 : decode cX12_layLeft 48 = .ok (.aload_n 0, 1) := by decide +kernel
theorem dX12_layLeft_49 : decode cX12_layLeft 49 = .ok (.dup, 1) := by decide +kernel
theorem dX12_layLeft_50 : decode cX12_layLeft 50 = .ok (.getfield 346, 3) := by decide +kernel
theorem dX12_layLeft_53 : decode cX12_layLeft 53 = .ok (.aload_n 0, 1) := by decide +kernel
theorem dX12_layLeft_54 : decode cX12_layLeft 54 = .ok (.iload_n 3, 1) := by decide +kernel
set_option maxRecDepth 20000 in
theorem ggX12_layLeft_X12_most : GoodIn wsX12_layLeft wsX12_most := goodIn_r _ [212, 213, 24, 214, 215, 131, 96, 132, 216, 217, 9, 218, 224, 225, 226, 227, 228, 229, 230, 231, 232, 233, 234, 235, 236, 237, 238, 239, 240, 241, 242, 243, 244, 245, 246, 247, 248, 249, 250, 251, 252, 253, 254, 255, 256, 257, 258, 259, 260, 261, 262, 263, 264, 265, 266, 267, 268, 269, 270, 271, 272, 273, 274, 275, 276, 277, 278, 279, 280, 281, 282, 283, 284, 285, 286, 287, 288, 289, 290, 291, 292] (by decide +kernel) (by decide +kernel)
set_option maxRecDepth 20000 in
theorem gX12_layLeft_X12_most : GoodIn wsX12_layLeft (wsV RX12 352 RX12 yX12_most wsX12_most) := goodIn_app (goodIn_of _ (by decide +kernel)) ggX12_layLeft_X12_most
theorem dX12_layLeft_55 : decode cX12_layLeft 55 = .ok (.invokevirtual 352, 3) := by decide +kernel
theorem dX12_layLeft_58 : decode cX12_layLeft 58 = .ok (.isub, 1) := by decide +kernel
theorem dX12_layLeft_59 : decode cX12_layLeft 59 = .ok (.putfield 346, 3) := by decide +kernel
theorem dX12_layLeft_62 : decode cX12_layLeft 62 = .ok (.aload_n 0, 1) := by decide +kernel
theorem dX12_layLeft_63 : decode cX12_layLeft 63 = .ok (.dup, 1) := by decide +kernel
theorem dX12_layLeft_64 : decode cX12_layLeft 64 = .ok (.getfield 349, 3) := by decide +kernel
theorem dX12_layLeft_67 : decode cX12_layLeft 67 = .ok (.aload_n 0, 1) := by decide +kernel
theorem dX12_layLeft_68 : decode cX12_layLeft 68 = .ok (.iload_n 3, 1) := by decide +kernel
set_option maxRecDepth 20000 in
theorem ggX12_layLeft_X12_least : GoodIn wsX12_layLeft wsX12_least := goodIn_r _ [222, 213, 24, 214, 223, 134, 96, 135, 216, 217, 9, 218, 224, 225, 226, 227, 228, 229, 230, 231, 232, 233, 234, 235, 236, 237, 238, 239, 240, 241, 242, 243, 244, 245, 246, 247, 248, 249, 250, 251, 252, 253, 254, 255, 256, 257, 258, 259, 260, 261, 262, 263, 264, 265, 266, 267, 268, 269, 270, 271, 272, 273, 274, 275, 276, 277, 278, 279, 280, 281, 282, 283, 284, 285, 286, 287, 288, 289, 290, 291, 292] (by decide +kernel) (by decide +kernel)
set_option maxRecDepth 20000 in
theorem gX12_layLeft_X12_least : GoodIn wsX12_layLeft (wsV RX12 355 RX12 yX12_least wsX12_least) := goodIn_app (goodIn_of _ (by decide +kernel)) ggX12_layLeft_X12_least
theorem dX12_layLeft_69 : decode cX12_layLeft 69 = .ok (.invokevirtual 355, 3) := by decide +kernel
theorem dX12_layLeft_72 : decode cX12_layLeft 72 = .ok (.isub, 1) := by decide +kernel
theorem dX12_layLeft_73 : decode cX12_layLeft 73 = .ok (.putfield 349, 3) := by decide +kernel
theorem dX12_layLeft_45 : decode cX12_layLeft 45 = .ok (.goto 31, 3) := by decide +kernel
theorem dX12_layLeft_0 : decode cX12_layLeft 0 = .ok (.aload_n 0, 1) := by decide +kernel
theorem dX12_layLeft_1 : decode cX12_layLeft 1 = .ok (.iload_n 1, 1) := by decide +kernel
set_option maxRecDepth 20000 in
theorem ggX12_layLeft_X12_layWorthsOf : GoodIn wsX12_layLeft wsX12_layWorthsOf := goodIn_r _ [10, 11, 12, 13, 9, 14, 15, 16, 17, 18, 19, 20, 21, 22, 23, 4, 24, 25, 26, 27, 28, 29, 30, 31, 32, 33, 34, 35, 36, 37, 38, 39, 40, 41, 42, 43, 44, 45, 46, 47, 48, 49, 50, 51, 52, 53, 54, 55, 56, 57, 58, 59, 60, 61, 62, 63, 64, 65, 66, 67, 68, 69, 70, 71, 72, 73, 74, 75, 76, 77, 78, 79, 80, 81, 82, 83, 84, 85, 86, 87, 88, 89, 90, 91, 92, 93, 94, 95, 96, 97, 98, 99, 100, 101, 102, 103, 104, 105, 106, 107, 108, 109, 110, 111, 112, 113, 114, 115, 116, 117, 118, 119, 120, 121, 122, 123, 124, 125, 126, 127, 128, 129, 130, 131, 132, 133, 134, 135, 136, 137, 138, 139, 140, 141, 142, 143, 144, 145, 146, 147, 148, 149, 150, 151, 152, 153, 154, 155, 156, 157, 158, 159, 160, 161, 162, 163, 164, 165, 166, 167, 168, 169, 170, 171, 172, 173, 174, 175, 176, 177, 178, 179, 180, 181, 182, 183, 184, 185, 186, 187, 188, 189, 190, 191, 192, 193, 194, 195, 196, 197, 198, 199, 200, 201, 202, 203, 204, 205, 206, 207, 208, 224, 225, 226, 227, 228, 229, 230, 231, 232, 233, 234, 235, 236, 237, 238, 239, 240, 241, 242, 243, 244, 245, 246, 247, 248, 249, 250, 251, 252, 253, 254, 255, 256, 257, 258, 259, 260, 261, 262, 263, 264, 265, 266, 267, 268, 269, 270, 271, 272, 273, 274, 275, 276, 277, 278, 279, 280, 281, 282, 283, 284, 285, 286, 287, 288, 289, 290, 291, 292] (by decide +kernel) (by decide +kernel)
set_option maxRecDepth 20000 in
theorem gX12_layLeft_X12_layWorthsOf : GoodIn wsX12_layLeft (wsV RX12 343 RX12 yX12_layWorthsOf wsX12_layWorthsOf) := goodIn_app (goodIn_of _ (by decide +kernel)) ggX12_layLeft_X12_layWorthsOf
theorem dX12_layLeft_2 : decode cX12_layLeft 2 = .ok (.invokevirtual 343, 3) := by decide +kernel
theorem dX12_layLeft_5 : decode cX12_layLeft 5 = .ok (.aload_n 0, 1) := by decide +kernel
theorem dX12_layLeft_6 : decode cX12_layLeft 6 = .ok (.aload_n 0, 1) := by decide +kernel
theorem dX12_layLeft_7 : decode cX12_layLeft 7 = .ok (.getfield 77, 3) := by decide +kernel
theorem dX12_layLeft_10 : decode cX12_layLeft 10 = .ok (.iload_n 1, 1) := by decide +kernel
theorem dX12_layLeft_11 : decode cX12_layLeft 11 = .ok (.iaload, 1) := by decide +kernel
theorem dX12_layLeft_12 : decode cX12_layLeft 12 = .ok (.putfield 346, 3) := by decide +kernel
theorem dX12_layLeft_15 : decode cX12_layLeft 15 = .ok (.aload_n 0, 1) := by decide +kernel
theorem dX12_layLeft_16 : decode cX12_layLeft 16 = .ok (.aload_n 0, 1) := by decide +kernel
theorem dX12_layLeft_17 : decode cX12_layLeft 17 = .ok (.getfield 77, 3) := by decide +kernel
theorem dX12_layLeft_20 : decode cX12_layLeft 20 = .ok (.iload_n 1, 1) := by decide +kernel
theorem dX12_layLeft_21 : decode cX12_layLeft 21 = .ok (.iaload, 1) := by decide +kernel
theorem dX12_layLeft_22 : decode cX12_layLeft 22 = .ok (.putfield 349, 3) := by decide +kernel
theorem dX12_layLeft_25 : decode cX12_layLeft 25 = .ok (.iconst 0, 1) := by decide +kernel
theorem dX12_layLeft_26 : decode cX12_layLeft 26 = .ok (.istore_n 3, 1) := by decide +kernel
/-- HissHornModel.layLeft(II)V of cell 0 -/
def rmX12_layLeft_0 : Room := { frames := 139, cells := 0, slots := 0, locals := 8452 }
theorem hX12_layLeft_0_X12 : ∀ w ∈ u_ws RX12 TX12 69, w ∈ wsX12_layLeft := fun w h => (List.mem_cons_of_mem _ (List.mem_append_right _ h))
theorem mX12_layLeft_0_1 : Cond.fieldLink RX12 77 "HissHornModel" "number" "[I" ∈ wsX12_layLeft := (List.mem_cons_of_mem _ (List.mem_append_left _ (List.mem_append_left _ (List.mem_of_getElem? (i := 0) rfl))))
theorem mX12_layLeft_0_2 : Cond.fieldLink RX12 346 "HissHornModel" "leftFrom" "I" ∈ wsX12_layLeft := (List.mem_cons_of_mem _ (List.mem_append_left _ (List.mem_append_left _ (List.mem_of_getElem? (i := 1) rfl))))
theorem mX12_layLeft_0_3 : Cond.fieldLink RX12 349 "HissHornModel" "leftTo" "I" ∈ wsX12_layLeft := (List.mem_cons_of_mem _ (List.mem_append_left _ (List.mem_append_left _ (List.mem_of_getElem? (i := 2) rfl))))
theorem mX12_layLeft_0_4 : Cond.fieldLink RX12 286 "HissHornModel" "parts" "I" ∈ wsX12_layLeft := (List.mem_cons_of_mem _ (List.mem_append_left _ (List.mem_append_left _ (List.mem_of_getElem? (i := 3) rfl))))
theorem mX12_layLeft_0_5 : Cond.fieldLink RX12 47 "HissHornModel" "partTold" "[I" ∈ wsX12_layLeft := (List.mem_cons_of_mem _ (List.mem_append_left _ (List.mem_append_left _ (List.mem_of_getElem? (i := 4) rfl))))
def GX12_layLeft_0_76 (k27 : Int32 → Int32 → SX → Option (Int32 × SX)) (z2 : Int32) (z3 : Int32) (u : SX) : Option (Int32 × SX) := (k27 z2 (z3 + 1) u)
def LX12_layLeft_0_27  : Nat → Int32 → Int32 → SX → Option (Int32 × SX)
  | 0, _, _, _ => none
  | n + 1, z2, z3, u => (if (u.1 12) ≤ z3 then (some (0, u)) else (gd (inb z3 12) (if (u.2.1 10 z3.toNatClampNeg) ≤ z2 then ((fX12_most_0 z3 u).bind fun q => match q with | (r11, u12) => (lt (sI u12 16 ((u.1 16) - r11)) fun u14 => ((fX12_least_0 z3 u14).bind fun q => match q with | (r16, u17) => (lt (sI u17 17 ((u14.1 17) - r16)) fun u19 => (GX12_layLeft_0_76 (LX12_layLeft_0_27 n) z2 z3 u19))))) else (GX12_layLeft_0_76 (LX12_layLeft_0_27 n) z2 z3 u))))
def fX12_layLeft_0 (x1 : Int32) (x2 : Int32) (u : SX) : Option (Int32 × SX) := ((fX12_layWorthsOf_0 x1 u).bind fun q => match q with | (r1, u2) => (gd (inb x1 80) (lt (sI u2 16 (u2.2.1 20 x1.toNatClampNeg)) fun u5 => (gd (inb x1 80) (lt (sI u5 17 (u5.2.1 20 x1.toNatClampNeg)) fun u8 => (LX12_layLeft_0_27  5000 x2 0 u8))))))
set_option maxHeartbeats 4000000 in
set_option maxRecDepth 100000 in
theorem wGX12_layLeft_0_76 {p : Program} {l : Launch} {e : Env} {s : State} {m : MethodId} {args : Array Value} {below : List Frame} {meth : Method} {c : Code} {D : va_G} {cy : Nat → ClassId} {ad st : Nat → Nat} (C : Cx RX12 cX12_layLeft 4 none wsX12_layLeft p s m args meth c) (hK : Kx D [(cy 0, .int), (cy 1, .long), (cy 2, .boolean), (cy 3, .byte), (cy 4, .object "HissHorn$Text")] st s) (hJ : JM ad) {r : Int32} {u' : SX} {k27 : Int32 → Int32 → SX → Option (Int32 × SX)} (hk27 : ∀ (z2 : Int32) (z3 : Int32) (u : SX) (H : Heap) (locs : List Loc) (ls : Array Slot), k27 z2 z3 u = some (r, u') → va_P D vwCl (VM cy ad st u) H → va_S (Ax (AM ad) s.heap.size) s.heap H locs → lv_has ls 4 [(0, .ref (ad 0)), (2, .int z2), (3, .int z3)] → W p l e rmX12_layLeft_0 s m args below meth c H locs 0 0 (MQ below (Qv D (VM cy ad st) (AM ad) s.heap.size r u') args s 0 0 (Ax (AM ad) s.heap.size)) (F0 m 27 ls [])) (z2 : Int32) (z3 : Int32) (u : SX) (H : Heap) (locs : List Loc) (ls : Array Slot) (h : GX12_layLeft_0_76 k27 z2 z3 u = some (r, u')) (hP : va_P D vwCl (VM cy ad st u) H) (hS : va_S (Ax (AM ad) s.heap.size) s.heap H locs) (hl : lv_has ls 4 [(0, .ref (ad 0)), (2, .int z2), (3, .int z3)]) : W p l e rmX12_layLeft_0 s m args below meth c H locs 0 0 (MQ below (Qv D (VM cy ad st) (AM ad) s.heap.size r u') args s 0 0 (Ax (AM ad) s.heap.size)) (F0 m 76 ls []) := by
  unfold GX12_layLeft_0_76 at h
  refine lv_iinc (v := z3 + 1) (lv' := [(3, .int (z3 + 1)), (0, .ref (ad 0)), (2, .int z2)]) C.1 C.2.1 dX12_layLeft_76 hl (k := 2) rfl rfl (by decide) rfl (fun ls hl => ?_)
  replace hl := lv_sub (l' := [(0, .ref (ad 0)), (2, .int z2), (3, .int (z3 + 1))]) hl [1, 2, 0] rfl
  refine lv_goto (tgt := 27) C.1 C.2.1 dX12_layLeft_79 (by decide) ?_
  exact hk27 _ _ _ _ _ _ h hP hS hl
set_option maxHeartbeats 4000000 in
set_option maxRecDepth 100000 in
theorem wLX12_layLeft_0_27 {p : Program} {l : Launch} {e : Env} {s : State} {m : MethodId} {args : Array Value} {below : List Frame} {meth : Method} {c : Code} {D : va_G} {cy : Nat → ClassId} {ad st : Nat → Nat} (C : Cx RX12 cX12_layLeft 4 none wsX12_layLeft p s m args meth c) (hK : Kx D [(cy 0, .int), (cy 1, .long), (cy 2, .boolean), (cy 3, .byte), (cy 4, .object "HissHorn$Text")] st s) (hJ : JM ad) {r : Int32} {u' : SX}   : ∀ (n : Nat) (z2 : Int32) (z3 : Int32) (u : SX) (H : Heap) (locs : List Loc) (ls : Array Slot), LX12_layLeft_0_27  n z2 z3 u = some (r, u') → va_P D vwCl (VM cy ad st u) H → va_S (Ax (AM ad) s.heap.size) s.heap H locs → lv_has ls 4 [(0, .ref (ad 0)), (2, .int z2), (3, .int z3)] → W p l e rmX12_layLeft_0 s m args below meth c H locs 0 0 (MQ below (Qv D (VM cy ad st) (AM ad) s.heap.size r u') args s 0 0 (Ax (AM ad) s.heap.size)) (F0 m 27 ls []) := by
  intro n
  induction n with
  | zero =>
    intro z2 z3 u H locs ls h
    exact absurd h (by intro q; cases q)
  | succ n ih =>
    intro z2 z3 u H locs ls h hP hS hl
    rw [LX12_layLeft_0_27] at h
    refine lv_iload_n C.1 C.2.1 dX12_layLeft_27 rfl (lv_at hl 2 rfl) ?_
    refine lv_aload_n C.1 C.2.1 dX12_layLeft_28 rfl (lv_at hl 0 rfl) ?_
    refine gM_0_parts C hX12_layLeft_0_X12 hK hP mX12_layLeft_0_4 dX12_layLeft_29 ?_
    refine lv_icmp_ge (tgt := 82) C.1 C.2.1 dX12_layLeft_32 (by decide) (fun c32 => ?_) (fun c32 => ?_)
    · rw [if_pos c32] at h
      cases h
      exact rt_v C hP hS dX12_layLeft_82
    · rw [if_neg c32] at h
      refine lv_aload_n C.1 C.2.1 dX12_layLeft_35 rfl (lv_at hl 0 rfl) ?_
      refine gM_0_partTold C hX12_layLeft_0_X12 hK hP mX12_layLeft_0_5 dX12_layLeft_36 ?_
      refine lv_iload_n C.1 C.2.1 dX12_layLeft_39 rfl (lv_at hl 2 rfl) ?_
      obtain ⟨hg10, h⟩ := gd_some h
      refine lM_10 C hK hP hg10 dX12_layLeft_40 ?_
      refine lv_iload_n C.1 C.2.1 dX12_layLeft_41 rfl (lv_at hl 1 rfl) ?_
      refine lv_icmp_le (tgt := 48) C.1 C.2.1 dX12_layLeft_42 (by decide) (fun c42 => ?_) (fun c42 => ?_)
      · rw [if_pos c42] at h
        refine lv_aload_n C.1 C.2.1 dX12_layLeft_48 rfl (lv_at hl 0 rfl) ?_
        refine lv_dup C.1 C.2.1 dX12_layLeft_49 rfl ?_
        refine gM_0_leftFrom C hX12_layLeft_0_X12 hK hP mX12_layLeft_0_2 dX12_layLeft_50 ?_
        refine lv_aload_n C.1 C.2.1 dX12_layLeft_53 rfl (lv_at hl 0 rfl) ?_
        refine lv_iload_n C.1 C.2.1 dX12_layLeft_54 rfl (lv_at hl 2 rfl) ?_
        obtain ⟨⟨r11, u12⟩, hc13, h⟩ := bd_some h
        try dsimp only at h
        refine cg_i (As := [.int z3]) (rest := [.int (u.1 16), .ref (ad 0)]) C hK hP hS (metX12_most_0 l D cy ad st hJ _ z3 hc13) (cwV 1 C.2.2.2.2.2.1 gX12_layLeft_X12_most rfl rfl rfl (by decide +kernel) ⟨(Nat.le_of_ble_eq_true rfl), (Nat.le_of_ble_eq_true rfl)⟩) 0 12 rfl rfl rfl hl.1 rfl (Nat.le_of_ble_eq_true rfl) dX12_layLeft_55 ⟨Nat.zero_le _, Nat.zero_le _⟩ (fun H locs hP hS => ?_)
        refine lv_isub C.1 C.2.1 dX12_layLeft_58 ?_
        refine pM_0_leftFrom C hX12_layLeft_0_X12 hK hP hJ hS mX12_layLeft_0_2 dX12_layLeft_59 (fun H locs hP hS => ?_)
        obtain ⟨u14, hu15, h⟩ := lt_some h
        rw [← hu15] at hP
        refine lv_aload_n C.1 C.2.1 dX12_layLeft_62 rfl (lv_at hl 0 rfl) ?_
        refine lv_dup C.1 C.2.1 dX12_layLeft_63 rfl ?_
        refine gM_0_leftTo C hX12_layLeft_0_X12 hK hP mX12_layLeft_0_3 dX12_layLeft_64 ?_
        refine lv_aload_n C.1 C.2.1 dX12_layLeft_67 rfl (lv_at hl 0 rfl) ?_
        refine lv_iload_n C.1 C.2.1 dX12_layLeft_68 rfl (lv_at hl 2 rfl) ?_
        obtain ⟨⟨r16, u17⟩, hc18, h⟩ := bd_some h
        try dsimp only at h
        refine cg_i (As := [.int z3]) (rest := [.int (u14.1 17), .ref (ad 0)]) C hK hP hS (metX12_least_0 l D cy ad st hJ _ z3 hc18) (cwV 1 C.2.2.2.2.2.1 gX12_layLeft_X12_least rfl rfl rfl (by decide +kernel) ⟨(Nat.le_of_ble_eq_true rfl), (Nat.le_of_ble_eq_true rfl)⟩) 0 12 rfl rfl rfl hl.1 rfl (Nat.le_of_ble_eq_true rfl) dX12_layLeft_69 ⟨Nat.zero_le _, Nat.zero_le _⟩ (fun H locs hP hS => ?_)
        refine lv_isub C.1 C.2.1 dX12_layLeft_72 ?_
        refine pM_0_leftTo C hX12_layLeft_0_X12 hK hP hJ hS mX12_layLeft_0_3 dX12_layLeft_73 (fun H locs hP hS => ?_)
        obtain ⟨u19, hu20, h⟩ := lt_some h
        rw [← hu20] at hP
        exact wGX12_layLeft_0_76 C hK hJ ih _ _ _ _ _ _ h hP hS hl
      · rw [if_neg c42] at h
        refine lv_goto (tgt := 76) C.1 C.2.1 dX12_layLeft_45 (by decide) ?_
        exact wGX12_layLeft_0_76 C hK hJ ih _ _ _ _ _ _ h hP hS hl
set_option maxHeartbeats 4000000 in
set_option maxRecDepth 100000 in
theorem wX12_layLeft_0 {p : Program} {l : Launch} {e : Env} {s : State} {m : MethodId} {args : Array Value} {below : List Frame} {meth : Method} {c : Code} {D : va_G} {cy : Nat → ClassId} {ad st : Nat → Nat} (C : Cx RX12 cX12_layLeft 4 none wsX12_layLeft p s m args meth c) (hK : Kx D [(cy 0, .int), (cy 1, .long), (cy 2, .boolean), (cy 3, .byte), (cy 4, .object "HissHorn$Text")] st s) (hJ : JM ad) (x1 : Int32) (x2 : Int32) {u : SX} {r : Int32} {u' : SX} {H : Heap} {locs : List Loc} {ls : Array Slot} (h : fX12_layLeft_0 x1 x2 u = some (r, u')) (hP : va_P D vwCl (VM cy ad st u) H) (hS : va_S (Ax (AM ad) s.heap.size) s.heap H locs) (hl : lv_has ls 4 [(0, .ref (ad 0)), (1, .int x1), (2, .int x2)]) : W p l e rmX12_layLeft_0 s m args below meth c H locs 0 0 (MQ below (Qv D (VM cy ad st) (AM ad) s.heap.size r u') args s 0 0 (Ax (AM ad) s.heap.size)) (F0 m 0 ls []) := by
  unfold fX12_layLeft_0 at h
  refine lv_aload_n C.1 C.2.1 dX12_layLeft_0 rfl (lv_at hl 0 rfl) ?_
  refine lv_iload_n C.1 C.2.1 dX12_layLeft_1 rfl (lv_at hl 1 rfl) ?_
  obtain ⟨⟨r1, u2⟩, hc3, h⟩ := bd_some h
  try dsimp only at h
  refine cg_v (As := [.int x1]) (rest := []) C hK hP hS (metX12_layWorthsOf_0 l D cy ad st hJ _ x1 hc3) (cwV 1 C.2.2.2.2.2.1 gX12_layLeft_X12_layWorthsOf rfl rfl rfl (by decide +kernel) ⟨(Nat.le_of_ble_eq_true rfl), (Nat.le_of_ble_eq_true rfl)⟩) 0 12 rfl rfl rfl hl.1 rfl (Nat.le_of_ble_eq_true rfl) dX12_layLeft_2 ⟨Nat.zero_le _, Nat.zero_le _⟩ (fun H locs hP hS => ?_)
  refine lv_aload_n C.1 C.2.1 dX12_layLeft_5 rfl (lv_at hl 0 rfl) ?_
  refine lv_aload_n C.1 C.2.1 dX12_layLeft_6 rfl (lv_at hl 0 rfl) ?_
  refine gM_0_number C hX12_layLeft_0_X12 hK hP mX12_layLeft_0_1 dX12_layLeft_7 ?_
  refine lv_iload_n C.1 C.2.1 dX12_layLeft_10 rfl (lv_at hl 1 rfl) ?_
  obtain ⟨hg4, h⟩ := gd_some h
  refine lM_20 C hK hP hg4 dX12_layLeft_11 ?_
  refine pM_0_leftFrom C hX12_layLeft_0_X12 hK hP hJ hS mX12_layLeft_0_2 dX12_layLeft_12 (fun H locs hP hS => ?_)
  obtain ⟨u5, hu6, h⟩ := lt_some h
  rw [← hu6] at hP
  refine lv_aload_n C.1 C.2.1 dX12_layLeft_15 rfl (lv_at hl 0 rfl) ?_
  refine lv_aload_n C.1 C.2.1 dX12_layLeft_16 rfl (lv_at hl 0 rfl) ?_
  refine gM_0_number C hX12_layLeft_0_X12 hK hP mX12_layLeft_0_1 dX12_layLeft_17 ?_
  refine lv_iload_n C.1 C.2.1 dX12_layLeft_20 rfl (lv_at hl 1 rfl) ?_
  obtain ⟨hg7, h⟩ := gd_some h
  refine lM_20 C hK hP hg7 dX12_layLeft_21 ?_
  refine pM_0_leftTo C hX12_layLeft_0_X12 hK hP hJ hS mX12_layLeft_0_3 dX12_layLeft_22 (fun H locs hP hS => ?_)
  obtain ⟨u8, hu9, h⟩ := lt_some h
  rw [← hu9] at hP
  refine lv_iconst (v := 0) C.1 C.2.1 dX12_layLeft_25 (by decide) ?_
  refine lv_istore_n (lv' := [(3, .int 0), (0, .ref (ad 0)), (1, .int x1), (2, .int x2)]) C.1 C.2.1 dX12_layLeft_26 rfl hl (by decide) rfl (fun ls hl => ?_)
  replace hl := lv_sub (l' := [(0, .ref (ad 0)), (1, .int x1), (2, .int x2), (3, .int 0)]) hl [1, 2, 3, 0] rfl
  exact wLX12_layLeft_0_27 C hK hJ  5000 _ _ _ _ _ _ h hP hS (lv_sub hl [0, 2, 3] rfl)
theorem metX12_layLeft_0 (l : Launch) (D : va_G) (cy : Nat → ClassId) (ad st : Nat → Nat) (hJ : JM ad) (sz : Nat) (x1 : Int32) (x2 : Int32) {u : SX} {r : Int32} {u' : SX} (h : fX12_layLeft_0 x1 x2 u = some (r, u')) : Met l yX12_layLeft wsX12_layLeft rmX12_layLeft_0 (va_Pc [.ref (ad 0), .int x1, .int x2] (Px D [(cy 0, .int), (cy 1, .long), (cy 2, .boolean), (cy 3, .byte), (cy 4, .object "HissHorn$Text")] st (VM cy ad st) sz u)) (Qv D (VM cy ad st) (AM ad) sz r u') 0 0 (Ax (AM ad) sz) := by
  refine Met.ofW (cc := cX12_layLeft) (maxL := 4) (ret := none) (by decide) rfl ?_
  intro p e s m args below meth c s₁ B hml hv
  obtain ⟨rfl, hsz, hP, hK⟩ := hv
  subst hsz
  have C : Cx RX12 cX12_layLeft 4 none wsX12_layLeft p s m _ meth c := ⟨B.exec, B.bytes, hml, B.returns, findClass_of_methodNamed B.named, atoms_spec (ws := wsX12_layLeft) B.pre, B.notSynchronized⟩
  have hl := lv_entry ([.ref (ad 0), .int x1, .int x2]) (n := 4) (Nat.le_of_ble_eq_true rfl)
  rw [lg_entry_eq]
  exact wX12_layLeft_0 C hK hJ x1 x2 h hP va_S.rf hl

theorem dX12_left_0 : decode cX12_left 0 = .ok (.aload_n 0, 1) := by decide +kernel
theorem dX12_left_1 : decode cX12_left 1 = .ok (.iconst 0, 1) := by decide +kernel
theorem dX12_left_2 : decode cX12_left 2 = .ok (.putfield 151, 3) := by decide +kernel
theorem dX12_left_5 : decode cX12_left 5 = .ok (.aload_n 0, 1) := by decide +kernel
theorem dX12_left_6 : decode cX12_left 6 = .ok (.iload_n 1, 1) := by decide +kernel
set_option maxRecDepth 20000 in
theorem ggX12_left_X12_isReading : GoodIn wsX12_left wsX12_isReading := goodIn_r _ [10, 11, 263, 264, 265, 266, 267, 268, 269, 270, 271, 272, 273, 274, 275, 276, 277, 278, 279, 280, 281, 282, 283, 284, 285, 286, 287, 288, 289, 290, 291, 292, 293, 294, 295, 296, 297, 298, 299, 300, 301, 302, 303, 304, 305, 306, 307, 308, 309, 310, 311, 312, 313, 314, 315, 316, 317, 318, 319, 320, 321, 322, 323, 324, 325, 326, 327, 328, 329, 330, 331] (by decide +kernel) (by decide +kernel)
set_option maxRecDepth 20000 in
theorem gX12_left_X12_isReading : GoodIn wsX12_left (wsV RX12 358 RX12 yX12_isReading wsX12_isReading) := goodIn_app (goodIn_of _ (by decide +kernel)) ggX12_left_X12_isReading
theorem dX12_left_7 : decode cX12_left 7 = .ok (.invokevirtual 358, 3) := by decide +kernel
theorem dX12_left_10 : decode cX12_left 10 = .ok (.ifCond .eq 26, 3) := by decide +kernel
theorem dX12_left_36 : decode cX12_left 36 = .ok (.ldc_w 330, 3) := by decide +kernel
theorem dX12_left_39 : decode cX12_left 39 = .ok (.ireturn, 1) := by decide +kernel
theorem dX12_left_13 : decode cX12_left 13 = .ok (.aload_n 0, 1) := by decide +kernel
theorem dX12_left_14 : decode cX12_left 14 = .ok (.aload_n 0, 1) := by decide +kernel
theorem dX12_left_15 : decode cX12_left 15 = .ok (.getfield 80, 3) := by decide +kernel
theorem dX12_left_18 : decode cX12_left 18 = .ok (.iload_n 1, 1) := by decide +kernel
theorem dX12_left_19 : decode cX12_left 19 = .ok (.iaload, 1) := by decide +kernel
theorem dX12_left_20 : decode cX12_left 20 = .ok (.iload_n 2, 1) := by decide +kernel
set_option maxRecDepth 20000 in
theorem ggX12_left_X12_isKnown : GoodIn wsX12_left wsX12_isKnown := goodIn_r _ [15, 16, 17, 18, 9, 19, 263, 264, 265, 266, 267, 268, 269, 270, 271, 272, 273, 274, 275, 276, 277, 278, 279, 280, 281, 282, 283, 284, 285, 286, 287, 288, 289, 290, 291, 292, 293, 294, 295, 296, 297, 298, 299, 300, 301, 302, 303, 304, 305, 306, 307, 308, 309, 310, 311, 312, 313, 314, 315, 316, 317, 318, 319, 320, 321, 322, 323, 324, 325, 326, 327, 328, 329, 330, 331] (by decide +kernel) (by decide +kernel)
set_option maxRecDepth 20000 in
theorem gX12_left_X12_isKnown : GoodIn wsX12_left (wsV RX12 310 RX12 yX12_isKnown wsX12_isKnown) := goodIn_app (goodIn_of _ (by decide +kernel)) ggX12_left_X12_isKnown
theorem dX12_left_21 : decode cX12_left 21 = .ok (.invokevirtual 310, 3) := by decide +kernel
theorem dX12_left_24 : decode cX12_left 24 = .ok (.ifCond .eq 12, 3) := by decide +kernel
theorem dX12_left_27 : decode cX12_left 27 = .ok (.iload_n 3, 1) := by decide +kernel
theorem dX12_left_28 : decode cX12_left 28 = .ok (.iconst 0, 1) := by decide +kernel
theorem dX12_left_29 : decode cX12_left 29 = .ok (.iconst 1, 1) := by decide +kernel
set_option maxRecDepth 20000 in
theorem ggX12_left_X12_isIn : GoodIn wsX12_left wsX12_isIn := goodIn_r _ [19] (by decide +kernel) (by decide +kernel)
set_option maxRecDepth 20000 in
theorem gX12_left_X12_isIn : GoodIn wsX12_left (va_wsS RX12 155 yX12_isIn wsX12_isIn) := goodIn_app (goodIn_of _ (by decide +kernel)) ggX12_left_X12_isIn
theorem dX12_left_30 : decode cX12_left 30 = .ok (.invokestatic 155, 3) := by decide +kernel
theorem dX12_left_33 : decode cX12_left 33 = .ok (.ifCond .ne 7, 3) := by decide +kernel
theorem dX12_left_40 : decode cX12_left 40 = .ok (.aload_n 0, 1) := by decide +kernel
theorem dX12_left_41 : decode cX12_left 41 = .ok (.iload_n 2, 1) := by decide +kernel
set_option maxRecDepth 20000 in
theorem ggX12_left_X12_laySpansOf : GoodIn wsX12_left wsX12_laySpansOf := goodIn_r _ [23, 24, 25, 26, 27, 28, 9, 29, 30, 31, 32, 33, 34, 35, 36, 37, 38, 39, 40, 41, 42, 43, 44, 45, 46, 47, 48, 49, 263, 264, 265, 266, 267, 268, 269, 270, 271, 272, 273, 274, 275, 276, 277, 278, 279, 280, 281, 282, 283, 284, 285, 286, 287, 288, 289, 290, 291, 292, 293, 294, 295, 296, 297, 298, 299, 300, 301, 302, 303, 304, 305, 306, 307, 308, 309, 310, 311, 312, 313, 314, 315, 316, 317, 318, 319, 320, 321, 322, 323, 324, 325, 326, 327, 328, 329, 330, 331] (by decide +kernel) (by decide +kernel)
set_option maxRecDepth 20000 in
theorem gX12_left_X12_laySpansOf : GoodIn wsX12_left (wsV RX12 313 RX12 yX12_laySpansOf wsX12_laySpansOf) := goodIn_app (goodIn_of _ (by decide +kernel)) ggX12_left_X12_laySpansOf
theorem dX12_left_42 : decode cX12_left 42 = .ok (.invokevirtual 313, 3) := by decide +kernel
theorem dX12_left_45 : decode cX12_left 45 = .ok (.aload_n 0, 1) := by decide +kernel
theorem dX12_left_46 : decode cX12_left 46 = .ok (.iload_n 1, 1) := by decide +kernel
theorem dX12_left_47 : decode cX12_left 47 = .ok (.iload_n 2, 1) := by decide +kernel
set_option maxRecDepth 20000 in
theorem ggX12_left_X12_layLeft : GoodIn wsX12_left wsX12_layLeft := goodIn_r _ [53, 54, 4, 5, 30, 55, 56, 57, 58, 9, 59, 60, 61, 62, 63, 2, 64, 65, 66, 67, 68, 69, 70, 71, 72, 73, 74, 75, 76, 77, 78, 79, 80, 81, 82, 83, 84, 85, 86, 87, 88, 89, 90, 91, 92, 93, 94, 95, 96, 97, 98, 99, 100, 101, 102, 103, 104, 105, 106, 107, 108, 109, 110, 111, 112, 113, 114, 115, 116, 117, 118, 119, 120, 121, 122, 123, 124, 125, 126, 127, 128, 129, 130, 131, 132, 133, 134, 135, 136, 137, 138, 139, 140, 141, 142, 143, 45, 144, 145, 146, 147, 148, 149, 150, 151, 152, 153, 154, 155, 156, 157, 158, 159, 160, 161, 162, 163, 164, 165, 166, 167, 168, 169, 170, 171, 172, 173, 174, 175, 176, 177, 44, 46, 178, 48, 49, 179, 180, 181, 182, 183, 184, 185, 186, 187, 188, 189, 190, 191, 192, 193, 194, 195, 196, 197, 198, 199, 200, 201, 202, 203, 204, 205, 206, 207, 208, 209, 210, 211, 212, 213, 214, 215, 216, 217, 218, 219, 220, 221, 222, 223, 224, 225, 226, 227, 228, 229, 230, 231, 232, 233, 234, 235, 236, 237, 238, 239, 240, 241, 242, 243, 244, 245, 246, 247, 248, 249, 250, 251, 252, 253, 254, 255, 31, 33, 43, 256, 257, 258, 259, 260, 261, 262, 47, 263, 264, 265, 266, 267, 268, 269, 270, 271, 272, 273, 274, 275, 276, 277, 278, 279, 280, 281, 282, 283, 284, 285, 286, 287, 288, 289, 290, 291, 292, 293, 294, 295, 296, 297, 298, 299, 300, 301, 302, 303, 304, 305, 306, 307, 308, 309, 310, 311, 312, 313, 314, 315, 316, 317, 318, 319, 320, 321, 322, 323, 324, 325, 326, 327, 328, 329, 330, 331] (by decide +kernel) (by decide +kernel)
set_option maxRecDepth 20000 in
theorem gX12_left_X12_layLeft : GoodIn wsX12_left (wsV RX12 361 RX12 yX12_layLeft wsX12_layLeft) := goodIn_app (goodIn_of _ (by decide +kernel)) ggX12_left_X12_layLeft
theorem dX12_left_48 : decode cX12_left 48 = .ok (.invokevirtual 361, 3) := by decide +kernel
theorem dX12_left_51 : decode cX12_left 51 = .ok (.iload_n 3, 1) := by decide +kernel
theorem dX12_left_52 : decode cX12_left 52 = .ok (.ifCond .ne 10, 3) := by decide +kernel
theorem dX12_left_62 : decode cX12_left 62 = .ok (.aload_n 0, 1) := by decide +kernel
theorem dX12_left_63 : decode cX12_left 63 = .ok (.getfield 349, 3) := by decide +kernel
theorem dX12_left_66 : decode cX12_left 66 = .ok (.ireturn, 1) := by decide +kernel
theorem dX12_left_55 : decode cX12_left 55 = .ok (.aload_n 0, 1) := by decide +kernel
theorem dX12_left_56 : decode cX12_left 56 = .ok (.getfield 346, 3) := by decide +kernel
theorem dX12_left_59 : decode cX12_left 59 = .ok (.goto 7, 3) := by decide +kernel
/-- HissHornModel.left(III)I of cell 0 -/
def rmX12_left_0 : Room := { frames := 140, cells := 0, slots := 0, locals := 8475 }
theorem hX12_left_0_X12 : ∀ w ∈ u_ws RX12 TX12 69, w ∈ wsX12_left := fun w h => (List.mem_cons_of_mem _ (List.mem_append_right _ h))
theorem mX12_left_0_1 : Cond.fieldLink RX12 151 "HissHornModel" "thrown" "I" ∈ wsX12_left := (List.mem_cons_of_mem _ (List.mem_append_left _ (List.mem_append_left _ (List.mem_of_getElem? (i := 0) rfl))))
theorem mX12_left_0_2 : Cond.constant RX12 330 (-100000000) ∈ wsX12_left := (List.mem_cons_of_mem _ (List.mem_append_left _ (List.mem_append_left _ (List.mem_of_getElem? (i := 2) rfl))))
theorem mX12_left_0_3 : Cond.fieldLink RX12 80 "HissHornModel" "readDay" "[I" ∈ wsX12_left := (List.mem_cons_of_mem _ (List.mem_append_left _ (List.mem_append_left _ (List.mem_of_getElem? (i := 1) rfl))))
theorem mX12_left_0_4 : Cond.fieldLink RX12 349 "HissHornModel" "leftTo" "I" ∈ wsX12_left := (List.mem_cons_of_mem _ (List.mem_append_left _ (List.mem_append_left _ (List.mem_of_getElem? (i := 4) rfl))))
theorem mX12_left_0_5 : Cond.fieldLink RX12 346 "HissHornModel" "leftFrom" "I" ∈ wsX12_left := (List.mem_cons_of_mem _ (List.mem_append_left _ (List.mem_append_left _ (List.mem_of_getElem? (i := 3) rfl))))
def fX12_left_0 (x1 : Int32) (x2 : Int32) (x3 : Int32) (u : SX) : Option (Int32 × SX) := (lt (sI u 0 0) fun u1 => ((fX12_isReading_0 x1 u1).bind fun q => match q with | (r3, u4) => (if r3 = 0 then (some ((-100000000), u4)) else (gd (inb x1 80) ((fX12_isKnown_0 (u4.2.1 21 x1.toNatClampNeg) x2 u4).bind fun q => match q with | (r7, u8) => (if r7 = 0 then (some ((-100000000), u8)) else ((fX12_isIn x3 0 1).bind fun r10 => (if r10 = 0 then (some ((-100000000), u8)) else ((fX12_laySpansOf_0 x2 u8).bind fun q => match q with | (r13, u14) => ((fX12_layLeft_0 x1 x2 u14).bind fun q => match q with | (r16, u17) => (if x3 = 0 then (some (u17.1 16, u17)) else (some (u17.1 17, u17)))))))))))))
set_option maxHeartbeats 4000000 in
set_option maxRecDepth 100000 in
theorem wX12_left_0 {p : Program} {l : Launch} {e : Env} {s : State} {m : MethodId} {args : Array Value} {below : List Frame} {meth : Method} {c : Code} {D : va_G} {cy : Nat → ClassId} {ad st : Nat → Nat} (C : Cx RX12 cX12_left 4 (some .int) wsX12_left p s m args meth c) (hK : Kx D [(cy 0, .int), (cy 1, .long), (cy 2, .boolean), (cy 3, .byte), (cy 4, .object "HissHorn$Text")] st s) (hJ : JM ad) (x1 : Int32) (x2 : Int32) (x3 : Int32) {u : SX} {r : Int32} {u' : SX} {H : Heap} {locs : List Loc} {ls : Array Slot} (h : fX12_left_0 x1 x2 x3 u = some (r, u')) (hP : va_P D vwCl (VM cy ad st u) H) (hS : va_S (Ax (AM ad) s.heap.size) s.heap H locs) (hl : lv_has ls 4 [(0, .ref (ad 0)), (1, .int x1), (2, .int x2), (3, .int x3)]) : W p l e rmX12_left_0 s m args below meth c H locs 0 0 (MQ below (Qi D (VM cy ad st) (AM ad) s.heap.size r u') args s 0 0 (Ax (AM ad) s.heap.size)) (F0 m 0 ls []) := by
  unfold fX12_left_0 at h
  refine lv_aload_n C.1 C.2.1 dX12_left_0 rfl (lv_at hl 0 rfl) ?_
  refine lv_iconst (v := 0) C.1 C.2.1 dX12_left_1 (by decide) ?_
  refine pM_0_thrown C hX12_left_0_X12 hK hP hJ hS mX12_left_0_1 dX12_left_2 (fun H locs hP hS => ?_)
  obtain ⟨u1, hu2, h⟩ := lt_some h
  rw [← hu2] at hP
  refine lv_aload_n C.1 C.2.1 dX12_left_5 rfl (lv_at hl 0 rfl) ?_
  refine lv_iload_n C.1 C.2.1 dX12_left_6 rfl (lv_at hl 1 rfl) ?_
  obtain ⟨⟨r3, u4⟩, hc5, h⟩ := bd_some h
  try dsimp only at h
  refine cg_i (As := [.int x1]) (rest := []) C hK hP hS (metX12_isReading_0 l D cy ad st hJ _ x1 hc5) (cwV 1 C.2.2.2.2.2.1 gX12_left_X12_isReading rfl rfl rfl (by decide +kernel) ⟨(Nat.le_of_ble_eq_true rfl), (Nat.le_of_ble_eq_true rfl)⟩) 0 12 rfl rfl rfl hl.1 rfl (Nat.le_of_ble_eq_true rfl) dX12_left_7 ⟨Nat.zero_le _, Nat.zero_le _⟩ (fun H locs hP hS => ?_)
  refine lv_if_eq (tgt := 36) C.1 C.2.1 dX12_left_10 (by decide) (fun c10 => ?_) (fun c10 => ?_)
  · rw [if_pos c10] at h
    refine lv_ldcw C.1 C.2.1 C.2.2.2.2.1 (C.2.2.2.2.2.1 _ mX12_left_0_2) dX12_left_36 ?_
    cases h
    exact rt_i C hP hS dX12_left_39
  · rw [if_neg c10] at h
    refine lv_aload_n C.1 C.2.1 dX12_left_13 rfl (lv_at hl 0 rfl) ?_
    refine lv_aload_n C.1 C.2.1 dX12_left_14 rfl (lv_at hl 0 rfl) ?_
    refine gM_0_readDay C hX12_left_0_X12 hK hP mX12_left_0_3 dX12_left_15 ?_
    refine lv_iload_n C.1 C.2.1 dX12_left_18 rfl (lv_at hl 1 rfl) ?_
    obtain ⟨hg6, h⟩ := gd_some h
    refine lM_21 C hK hP hg6 dX12_left_19 ?_
    refine lv_iload_n C.1 C.2.1 dX12_left_20 rfl (lv_at hl 2 rfl) ?_
    obtain ⟨⟨r7, u8⟩, hc9, h⟩ := bd_some h
    try dsimp only at h
    refine cg_i (As := [.int (u4.2.1 21 x1.toNatClampNeg), .int x2]) (rest := []) C hK hP hS (metX12_isKnown_0 l D cy ad st hJ _ (u4.2.1 21 x1.toNatClampNeg) x2 hc9) (cwV 2 C.2.2.2.2.2.1 gX12_left_X12_isKnown rfl rfl rfl (by decide +kernel) ⟨(Nat.le_of_ble_eq_true rfl), (Nat.le_of_ble_eq_true rfl)⟩) 0 12 rfl rfl rfl hl.1 rfl (Nat.le_of_ble_eq_true rfl) dX12_left_21 ⟨Nat.zero_le _, Nat.zero_le _⟩ (fun H locs hP hS => ?_)
    refine lv_if_eq (tgt := 36) C.1 C.2.1 dX12_left_24 (by decide) (fun c24 => ?_) (fun c24 => ?_)
    · rw [if_pos c24] at h
      refine lv_ldcw C.1 C.2.1 C.2.2.2.2.1 (C.2.2.2.2.2.1 _ mX12_left_0_2) dX12_left_36 ?_
      cases h
      exact rt_i C hP hS dX12_left_39
    · rw [if_neg c24] at h
      refine lv_iload_n C.1 C.2.1 dX12_left_27 rfl (lv_at hl 3 rfl) ?_
      refine lv_iconst (v := 0) C.1 C.2.1 dX12_left_28 (by decide) ?_
      refine lv_iconst (v := 1) C.1 C.2.1 dX12_left_29 (by decide) ?_
      obtain ⟨r10, hc12, h⟩ := bd_some h
      refine cs_i (As := [.int x3, .int 0, .int 1]) (rest := []) C hK hP hS (metX12_isIn l D cy st _ x3 0 1 hc12) (va_cwS 3 C.2.2.2.2.2.1 gX12_left_X12_isIn rfl rfl rfl (by decide +kernel) ⟨(Nat.le_of_ble_eq_true rfl), (Nat.le_of_ble_eq_true rfl)⟩) rfl hl.1 rfl (Nat.le_of_ble_eq_true rfl) dX12_left_30 ⟨Nat.zero_le _, Nat.zero_le _⟩ (fun H locs hP hS => ?_)
      refine lv_if_ne (tgt := 40) C.1 C.2.1 dX12_left_33 (by decide) (fun c33 => ?_) (fun c33 => ?_)
      · rw [if_neg c33] at h
        refine lv_aload_n C.1 C.2.1 dX12_left_40 rfl (lv_at hl 0 rfl) ?_
        refine lv_iload_n C.1 C.2.1 dX12_left_41 rfl (lv_at hl 2 rfl) ?_
        obtain ⟨⟨r13, u14⟩, hc15, h⟩ := bd_some h
        try dsimp only at h
        refine cg_v (As := [.int x2]) (rest := []) C hK hP hS (metX12_laySpansOf_0 l D cy ad st hJ _ x2 hc15) (cwV 1 C.2.2.2.2.2.1 gX12_left_X12_laySpansOf rfl rfl rfl (by decide +kernel) ⟨(Nat.le_of_ble_eq_true rfl), (Nat.le_of_ble_eq_true rfl)⟩) 0 12 rfl rfl rfl hl.1 rfl (Nat.le_of_ble_eq_true rfl) dX12_left_42 ⟨Nat.zero_le _, Nat.zero_le _⟩ (fun H locs hP hS => ?_)
        refine lv_aload_n C.1 C.2.1 dX12_left_45 rfl (lv_at hl 0 rfl) ?_
        refine lv_iload_n C.1 C.2.1 dX12_left_46 rfl (lv_at hl 1 rfl) ?_
        refine lv_iload_n C.1 C.2.1 dX12_left_47 rfl (lv_at hl 2 rfl) ?_
        obtain ⟨⟨r16, u17⟩, hc18, h⟩ := bd_some h
        try dsimp only at h
        refine cg_v (As := [.int x1, .int x2]) (rest := []) C hK hP hS (metX12_layLeft_0 l D cy ad st hJ _ x1 x2 hc18) (cwV 2 C.2.2.2.2.2.1 gX12_left_X12_layLeft rfl rfl rfl (by decide +kernel) ⟨(Nat.le_of_ble_eq_true rfl), (Nat.le_of_ble_eq_true rfl)⟩) 0 12 rfl rfl rfl hl.1 rfl (Nat.le_of_ble_eq_true rfl) dX12_left_48 ⟨Nat.zero_le _, Nat.zero_le _⟩ (fun H locs hP hS => ?_)
        refine lv_iload_n C.1 C.2.1 dX12_left_51 rfl (lv_at hl 3 rfl) ?_
        refine lv_if_ne (tgt := 62) C.1 C.2.1 dX12_left_52 (by decide) (fun c52 => ?_) (fun c52 => ?_)
        · rw [if_neg c52] at h
          refine lv_aload_n C.1 C.2.1 dX12_left_62 rfl (lv_at hl 0 rfl) ?_
          refine gM_0_leftTo C hX12_left_0_X12 hK hP mX12_left_0_4 dX12_left_63 ?_
          cases h
          exact rt_i C hP hS dX12_left_66
        · rw [if_pos c52] at h
          refine lv_aload_n C.1 C.2.1 dX12_left_55 rfl (lv_at hl 0 rfl) ?_
          refine gM_0_leftFrom C hX12_left_0_X12 hK hP mX12_left_0_5 dX12_left_56 ?_
          refine lv_goto (tgt := 66) C.1 C.2.1 dX12_left_59 (by decide) ?_
          cases h
          exact rt_i C hP hS dX12_left_66
      · rw [if_pos c33] at h
        refine lv_ldcw C.1 C.2.1 C.2.2.2.2.1 (C.2.2.2.2.2.1 _ mX12_left_0_2) dX12_left_36 ?_
        cases h
        exact rt_i C hP hS dX12_left_39
theorem metX12_left_0 (l : Launch) (D : va_G) (cy : Nat → ClassId) (ad st : Nat → Nat) (hJ : JM ad) (sz : Nat) (x1 : Int32) (x2 : Int32) (x3 : Int32) {u : SX} {r : Int32} {u' : SX} (h : fX12_left_0 x1 x2 x3 u = some (r, u')) : Met l yX12_left wsX12_left rmX12_left_0 (va_Pc [.ref (ad 0), .int x1, .int x2, .int x3] (Px D [(cy 0, .int), (cy 1, .long), (cy 2, .boolean), (cy 3, .byte), (cy 4, .object "HissHorn$Text")] st (VM cy ad st) sz u)) (Qi D (VM cy ad st) (AM ad) sz r u') 0 0 (Ax (AM ad) sz) := by
  refine Met.ofW (cc := cX12_left) (maxL := 4) (ret := (some .int)) (by decide) rfl ?_
  intro p e s m args below meth c s₁ B hml hv
  obtain ⟨rfl, hsz, hP, hK⟩ := hv
  subst hsz
  have C : Cx RX12 cX12_left 4 (some .int) wsX12_left p s m _ meth c := ⟨B.exec, B.bytes, hml, B.returns, findClass_of_methodNamed B.named, atoms_spec (ws := wsX12_left) B.pre, B.notSynchronized⟩
  have hl := lv_entry ([.ref (ad 0), .int x1, .int x2, .int x3]) (n := 4) (Nat.le_of_ble_eq_true rfl)
  rw [lg_entry_eq]
  exact wX12_left_0 C hK hJ x1 x2 x3 h hP va_S.rf hl

theorem dX12_most__106 : decode cX12_most_ 106 = .ok (.iinc 5 1, 3) := by decide +kernel
theorem dX12_most__109 : decode cX12_most_ 109 = .ok (.goto (-62), 3) := by decide +kernel
theorem dX12_most__47 : decode cX12_most_ 47 = .ok (.iload 5, 2) := by decide +kernel
theorem dX12_most__49 : decode cX12_most_ 49 = .ok (.aload_n 0, 1) := by decide +kernel
theorem dX12_most__50 : decode cX12_most_ 50 = .ok (.getfield 286, 3) := by decide +kernel
theorem dX12_most__53 : decode cX12_most_ 53 = .ok (.if_icmp .ge 59, 3) := by decide +kernel
theorem dX12_most__112 : decode cX12_most_ 112 = .ok (.iload_n 3, 1) := by decide +kernel
theorem dX12_most__113 : decode cX12_most_ 113 = .ok (.ireturn, 1) := by decide +kernel
theorem dX12_most__56 : decode cX12_most_ 56 = .ok (.aload_n 0, 1) := by decide +kernel
theorem dX12_most__57 : decode cX12_most_ 57 = .ok (.getfield 47, 3) := by decide +kernel
theorem dX12_most__60 : decode cX12_most_ 60 = .ok (.iload 5, 2) := by decide +kernel
theorem dX12_most__62 : decode cX12_most_ 62 = .ok (.iaload, 1) := by decide +kernel
theorem dX12_most__63 : decode cX12_most_ 63 = .ok (.iload_n 2, 1) := by decide +kernel
theorem dX12_most__64 : decode cX12_most_ 64 = .ok (.if_icmp .gt 42, 3) := by decide +kernel
theorem dX12_most__67 : decode cX12_most_ 67 = .ok (.aload_n 0, 1) := by decide +kernel
theorem dX12_most__68 : decode cX12_most_ 68 = .ok (.iload 5, 2) := by decide +kernel
set_option maxRecDepth 20000 in
theorem ggX12_most__X12_most : GoodIn wsX12_most_ wsX12_most := goodIn_r _ [247, 29, 64, 31, 41, 42, 43, 44, 248, 249, 8, 250, 255, 256, 257, 258, 259, 260, 261, 262, 263, 264, 265, 266, 267, 268, 269, 270, 271, 272, 273, 274, 275, 276, 277, 278, 279, 280, 281, 282, 283, 284, 285, 286, 287, 288, 289, 290, 291, 292, 293, 294, 295, 296, 297, 298, 299, 300, 301, 302, 303, 304, 305, 306, 307, 308, 309, 310, 311, 312, 313, 314, 315, 316, 317, 318, 319, 320, 321, 322, 323] (by decide +kernel) (by decide +kernel)
set_option maxRecDepth 20000 in
theorem gX12_most__X12_most : GoodIn wsX12_most_ (wsV RX12 352 RX12 yX12_most wsX12_most) := goodIn_app (goodIn_of _ (by decide +kernel)) ggX12_most__X12_most
theorem dX12_most__70 : decode cX12_most_ 70 = .ok (.invokevirtual 352, 3) := by decide +kernel
theorem dX12_most__73 : decode cX12_most_ 73 = .ok (.aload_n 0, 1) := by decide +kernel
theorem dX12_most__74 : decode cX12_most_ 74 = .ok (.iload 5, 2) := by decide +kernel
set_option maxRecDepth 20000 in
theorem ggX12_most__X12_least : GoodIn wsX12_most_ wsX12_least := goodIn_r _ [254, 29, 64, 31, 45, 46, 43, 47, 248, 249, 8, 250, 255, 256, 257, 258, 259, 260, 261, 262, 263, 264, 265, 266, 267, 268, 269, 270, 271, 272, 273, 274, 275, 276, 277, 278, 279, 280, 281, 282, 283, 284, 285, 286, 287, 288, 289, 290, 291, 292, 293, 294, 295, 296, 297, 298, 299, 300, 301, 302, 303, 304, 305, 306, 307, 308, 309, 310, 311, 312, 313, 314, 315, 316, 317, 318, 319, 320, 321, 322, 323] (by decide +kernel) (by decide +kernel)
set_option maxRecDepth 20000 in
theorem gX12_most__X12_least : GoodIn wsX12_most_ (wsV RX12 355 RX12 yX12_least wsX12_least) := goodIn_app (goodIn_of _ (by decide +kernel)) ggX12_most__X12_least
theorem dX12_most__76 : decode cX12_most_ 76 = .ok (.invokevirtual 355, 3) := by decide +kernel
theorem dX12_most__79 : decode cX12_most_ 79 = .ok (.isub, 1) := by decide +kernel
theorem dX12_most__80 : decode cX12_most_ 80 = .ok (.iload 4, 2) := by decide +kernel
theorem dX12_most__82 : decode cX12_most_ 82 = .ok (.if_icmp .gt 6, 3) := by decide +kernel
theorem dX12_most__88 : decode cX12_most_ 88 = .ok (.aload_n 0, 1) := by decide +kernel
theorem dX12_most__89 : decode cX12_most_ 89 = .ok (.iload 5, 2) := by decide +kernel
theorem dX12_most__91 : decode cX12_most_ 91 = .ok (.invokevirtual 352, 3) := by decide +kernel
theorem dX12_most__94 : decode cX12_most_ 94 = .ok (.aload_n 0, 1) := by decide +kernel
theorem dX12_most__95 : decode cX12_most_ 95 = .ok (.iload 5, 2) := by decide +kernel
theorem dX12_most__97 : decode cX12_most_ 97 = .ok (.invokevirtual 355, 3) := by decide +kernel
theorem dX12_most__100 : decode cX12_most_ 100 = .ok (.isub, 1) := by decide +kernel
theorem dX12_most__101 : decode cX12_most_ 101 = .ok (.istore 4, 2) := by decide +kernel
theorem dX12_most__103 : decode cX12_most_ 103 = .ok (.iload 5, 2) := by decide +kernel
theorem dX12_most__105 : decode cX12_most_ 105 = .ok (.istore_n 3, 1) := by decide +kernel
theorem dX12_most__85 : decode cX12_most_ 85 = .ok (.goto 21, 3) := by decide +kernel
theorem dX12_most__0 : decode cX12_most_ 0 = .ok (.aload_n 0, 1) := by decide +kernel
theorem dX12_most__1 : decode cX12_most_ 1 = .ok (.iconst 0, 1) := by decide +kernel
theorem dX12_most__2 : decode cX12_most_ 2 = .ok (.putfield 151, 3) := by decide +kernel
theorem dX12_most__5 : decode cX12_most_ 5 = .ok (.aload_n 0, 1) := by decide +kernel
theorem dX12_most__6 : decode cX12_most_ 6 = .ok (.iload_n 1, 1) := by decide +kernel
set_option maxRecDepth 20000 in
theorem ggX12_most__X12_isReading : GoodIn wsX12_most_ wsX12_isReading := goodIn_r _ [9, 10, 255, 256, 257, 258, 259, 260, 261, 262, 263, 264, 265, 266, 267, 268, 269, 270, 271, 272, 273, 274, 275, 276, 277, 278, 279, 280, 281, 282, 283, 284, 285, 286, 287, 288, 289, 290, 291, 292, 293, 294, 295, 296, 297, 298, 299, 300, 301, 302, 303, 304, 305, 306, 307, 308, 309, 310, 311, 312, 313, 314, 315, 316, 317, 318, 319, 320, 321, 322, 323] (by decide +kernel) (by decide +kernel)
set_option maxRecDepth 20000 in
theorem gX12_most__X12_isReading : GoodIn wsX12_most_ (wsV RX12 358 RX12 yX12_isReading wsX12_isReading) := goodIn_app (goodIn_of _ (by decide +kernel)) ggX12_most__X12_isReading
theorem dX12_most__7 : decode cX12_most_ 7 = .ok (.invokevirtual 358, 3) := by decide +kernel
theorem dX12_most__10 : decode cX12_most_ 10 = .ok (.ifCond .eq 17, 3) := by decide +kernel
theorem dX12_most__27 : decode cX12_most_ 27 = .ok (.iconst (-1), 1) := by decide +kernel
theorem dX12_most__28 : decode cX12_most_ 28 = .ok (.ireturn, 1) := by decide +kernel
theorem dX12_most__13 : decode cX12_most_ 13 = .ok (.aload_n 0, 1) := by decide +kernel
theorem dX12_most__14 : decode cX12_most_ 14 = .ok (.aload_n 0, 1) := by decide +kernel
theorem dX12_most__15 : decode cX12_most_ 15 = .ok (.getfield 80, 3) := by decide +kernel
theorem dX12_most__18 : decode cX12_most_ 18 = .ok (.iload_n 1, 1) := by decide +kernel
theorem dX12_most__19 : decode cX12_most_ 19 = .ok (.iaload, 1) := by decide +kernel
theorem dX12_most__20 : decode cX12_most_ 20 = .ok (.iload_n 2, 1) := by decide +kernel
set_option maxRecDepth 20000 in
theorem ggX12_most__X12_isKnown : GoodIn wsX12_most_ wsX12_isKnown := goodIn_r _ [14, 15, 16, 17, 8, 18, 255, 256, 257, 258, 259, 260, 261, 262, 263, 264, 265, 266, 267, 268, 269, 270, 271, 272, 273, 274, 275, 276, 277, 278, 279, 280, 281, 282, 283, 284, 285, 286, 287, 288, 289, 290, 291, 292, 293, 294, 295, 296, 297, 298, 299, 300, 301, 302, 303, 304, 305, 306, 307, 308, 309, 310, 311, 312, 313, 314, 315, 316, 317, 318, 319, 320, 321, 322, 323] (by decide +kernel) (by decide +kernel)
set_option maxRecDepth 20000 in
theorem gX12_most__X12_isKnown : GoodIn wsX12_most_ (wsV RX12 310 RX12 yX12_isKnown wsX12_isKnown) := goodIn_app (goodIn_of _ (by decide +kernel)) ggX12_most__X12_isKnown
theorem dX12_most__21 : decode cX12_most_ 21 = .ok (.invokevirtual 310, 3) := by decide +kernel
theorem dX12_most__24 : decode cX12_most_ 24 = .ok (.ifCond .ne 5, 3) := by decide +kernel
theorem dX12_most__29 : decode cX12_most_ 29 = .ok (.aload_n 0, 1) := by decide +kernel
theorem dX12_most__30 : decode cX12_most_ 30 = .ok (.iload_n 2, 1) := by decide +kernel
set_option maxRecDepth 20000 in
theorem ggX12_most__X12_laySpansOf : GoodIn wsX12_most_ wsX12_laySpansOf := goodIn_r _ [22, 23, 24, 25, 26, 27, 8, 28, 3, 29, 30, 31, 32, 33, 34, 35, 36, 37, 38, 39, 40, 41, 42, 43, 44, 45, 46, 47, 255, 256, 257, 258, 259, 260, 261, 262, 263, 264, 265, 266, 267, 268, 269, 270, 271, 272, 273, 274, 275, 276, 277, 278, 279, 280, 281, 282, 283, 284, 285, 286, 287, 288, 289, 290, 291, 292, 293, 294, 295, 296, 297, 298, 299, 300, 301, 302, 303, 304, 305, 306, 307, 308, 309, 310, 311, 312, 313, 314, 315, 316, 317, 318, 319, 320, 321, 322, 323] (by decide +kernel) (by decide +kernel)
set_option maxRecDepth 20000 in
theorem gX12_most__X12_laySpansOf : GoodIn wsX12_most_ (wsV RX12 313 RX12 yX12_laySpansOf wsX12_laySpansOf) := goodIn_app (goodIn_of _ (by decide +kernel)) ggX12_most__X12_laySpansOf
theorem dX12_most__31 : decode cX12_most_ 31 = .ok (.invokevirtual 313, 3) := by decide +kernel
theorem dX12_most__34 : decode cX12_most_ 34 = .ok (.aload_n 0, 1) := by decide +kernel
theorem dX12_most__35 : decode cX12_most_ 35 = .ok (.iload_n 1, 1) := by decide +kernel
set_option maxRecDepth 20000 in
theorem ggX12_most__X12_layWorthsOf : GoodIn wsX12_most_ wsX12_layWorthsOf := goodIn_r _ [51, 52, 53, 54, 8, 55, 2, 56, 57, 58, 59, 60, 61, 62, 63, 3, 64, 65, 66, 67, 68, 69, 70, 71, 72, 73, 74, 75, 76, 77, 78, 79, 80, 81, 82, 83, 84, 85, 86, 87, 88, 89, 90, 91, 92, 93, 94, 95, 96, 97, 98, 99, 100, 101, 102, 103, 104, 105, 106, 107, 108, 109, 110, 111, 112, 113, 114, 115, 116, 117, 118, 119, 120, 121, 122, 123, 124, 125, 126, 127, 128, 129, 130, 131, 132, 133, 134, 135, 43, 136, 137, 138, 139, 140, 141, 142, 143, 144, 145, 146, 147, 148, 149, 150, 151, 152, 153, 154, 155, 156, 157, 158, 159, 160, 161, 162, 163, 164, 165, 166, 167, 168, 169, 42, 44, 170, 46, 47, 171, 172, 173, 174, 175, 176, 177, 178, 179, 180, 181, 182, 183, 184, 185, 186, 187, 188, 189, 190, 191, 192, 193, 194, 195, 196, 197, 198, 199, 200, 201, 202, 203, 204, 205, 206, 207, 208, 209, 210, 211, 212, 213, 214, 215, 216, 217, 218, 219, 220, 221, 222, 223, 224, 225, 226, 227, 228, 229, 230, 231, 232, 233, 234, 235, 236, 237, 238, 239, 240, 241, 242, 243, 255, 256, 257, 258, 259, 260, 261, 262, 263, 264, 265, 266, 267, 268, 269, 270, 271, 272, 273, 274, 275, 276, 277, 278, 279, 280, 281, 282, 283, 284, 285, 286, 287, 288, 289, 290, 291, 292, 293, 294, 295, 296, 297, 298, 299, 300, 301, 302, 303, 304, 305, 306, 307, 308, 309, 310, 311, 312, 313, 314, 315, 316, 317, 318, 319, 320, 321, 322, 323] (by decide +kernel) (by decide +kernel)
set_option maxRecDepth 20000 in
theorem gX12_most__X12_layWorthsOf : GoodIn wsX12_most_ (wsV RX12 343 RX12 yX12_layWorthsOf wsX12_layWorthsOf) := goodIn_app (goodIn_of _ (by decide +kernel)) ggX12_most__X12_layWorthsOf
theorem dX12_most__36 : decode cX12_most_ 36 = .ok (.invokevirtual 343, 3) := by decide +kernel
theorem dX12_most__39 : decode cX12_most_ 39 = .ok (.iconst (-1), 1) := by decide +kernel
theorem dX12_most__40 : decode cX12_most_ 40 = .ok (.istore_n 3, 1) := by decide +kernel
theorem dX12_most__41 : decode cX12_most_ 41 = .ok (.iconst (-1), 1) := by decide +kernel
theorem dX12_most__42 : decode cX12_most_ 42 = .ok (.istore 4, 2) := by decide +kernel
theorem dX12_most__44 : decode cX12_most_ 44 = .ok (.iconst 0, 1) := by decide +kernel
theorem dX12_most__45 : decode cX12_most_ 45 = .ok (.istore 5, 2) := by decide +kernel
/-- HissHornModel.most(II)I of cell 0 -/
def rmX12_most__0 : Room := { frames := 139, cells := 0, slots := 0, locals := 8452 }
theorem hX12_most__0_X12 : ∀ w ∈ u_ws RX12 TX12 69, w ∈ wsX12_most_ := fun w h => (List.mem_cons_of_mem _ (List.mem_append_right _ h))
theorem mX12_most__0_1 : Cond.fieldLink RX12 151 "HissHornModel" "thrown" "I" ∈ wsX12_most_ := (List.mem_cons_of_mem _ (List.mem_append_left _ (List.mem_append_left _ (List.mem_of_getElem? (i := 0) rfl))))
theorem mX12_most__0_2 : Cond.fieldLink RX12 80 "HissHornModel" "readDay" "[I" ∈ wsX12_most_ := (List.mem_cons_of_mem _ (List.mem_append_left _ (List.mem_append_left _ (List.mem_of_getElem? (i := 1) rfl))))
theorem mX12_most__0_3 : Cond.fieldLink RX12 286 "HissHornModel" "parts" "I" ∈ wsX12_most_ := (List.mem_cons_of_mem _ (List.mem_append_left _ (List.mem_append_left _ (List.mem_of_getElem? (i := 2) rfl))))
theorem mX12_most__0_4 : Cond.fieldLink RX12 47 "HissHornModel" "partTold" "[I" ∈ wsX12_most_ := (List.mem_cons_of_mem _ (List.mem_append_left _ (List.mem_append_left _ (List.mem_of_getElem? (i := 3) rfl))))
def GX12_most__0_106 (k47 : Int32 → Int32 → Int32 → Int32 → SX → Option (Int32 × SX)) (z2 : Int32) (z3 : Int32) (z4 : Int32) (z5 : Int32) (u : SX) : Option (Int32 × SX) := (k47 z2 z3 z4 (z5 + 1) u)
def LX12_most__0_47  : Nat → Int32 → Int32 → Int32 → Int32 → SX → Option (Int32 × SX)
  | 0, _, _, _, _, _ => none
  | n + 1, z2, z3, z4, z5, u => (if (u.1 12) ≤ z5 then (some (z3, u)) else (gd (inb z5 12) (if z2 < (u.2.1 10 z5.toNatClampNeg) then (GX12_most__0_106 (LX12_most__0_47 n) z2 z3 z4 z5 u) else ((fX12_most_0 z5 u).bind fun q => match q with | (r17, u18) => ((fX12_least_0 z5 u18).bind fun q => match q with | (r20, u21) => (if z4 < (r17 - r20) then ((fX12_most_0 z5 u21).bind fun q => match q with | (r23, u24) => ((fX12_least_0 z5 u24).bind fun q => match q with | (r26, u27) => (lt (r23 - r26) fun v29 => (GX12_most__0_106 (LX12_most__0_47 n) z2 z5 v29 z5 u27)))) else (GX12_most__0_106 (LX12_most__0_47 n) z2 z3 z4 z5 u21)))))))
def fX12_most__0 (x1 : Int32) (x2 : Int32) (u : SX) : Option (Int32 × SX) := (lt (sI u 0 0) fun u1 => ((fX12_isReading_0 x1 u1).bind fun q => match q with | (r3, u4) => (if r3 = 0 then (some ((-1), u4)) else (gd (inb x1 80) ((fX12_isKnown_0 (u4.2.1 21 x1.toNatClampNeg) x2 u4).bind fun q => match q with | (r7, u8) => (if r7 = 0 then (some ((-1), u8)) else ((fX12_laySpansOf_0 x2 u8).bind fun q => match q with | (r10, u11) => ((fX12_layWorthsOf_0 x1 u11).bind fun q => match q with | (r13, u14) => (LX12_most__0_47  5000 x2 (-1) (-1) 0 u14)))))))))
set_option maxHeartbeats 4000000 in
set_option maxRecDepth 100000 in
theorem wGX12_most__0_106 {p : Program} {l : Launch} {e : Env} {s : State} {m : MethodId} {args : Array Value} {below : List Frame} {meth : Method} {c : Code} {D : va_G} {cy : Nat → ClassId} {ad st : Nat → Nat} (C : Cx RX12 cX12_most_ 6 (some .int) wsX12_most_ p s m args meth c) (hK : Kx D [(cy 0, .int), (cy 1, .long), (cy 2, .boolean), (cy 3, .byte), (cy 4, .object "HissHorn$Text")] st s) (hJ : JM ad) {r : Int32} {u' : SX} {k47 : Int32 → Int32 → Int32 → Int32 → SX → Option (Int32 × SX)} (hk47 : ∀ (z2 : Int32) (z3 : Int32) (z4 : Int32) (z5 : Int32) (u : SX) (H : Heap) (locs : List Loc) (ls : Array Slot), k47 z2 z3 z4 z5 u = some (r, u') → va_P D vwCl (VM cy ad st u) H → va_S (Ax (AM ad) s.heap.size) s.heap H locs → lv_has ls 6 [(0, .ref (ad 0)), (2, .int z2), (3, .int z3), (4, .int z4), (5, .int z5)] → W p l e rmX12_most__0 s m args below meth c H locs 0 0 (MQ below (Qi D (VM cy ad st) (AM ad) s.heap.size r u') args s 0 0 (Ax (AM ad) s.heap.size)) (F0 m 47 ls [])) (z2 : Int32) (z3 : Int32) (z4 : Int32) (z5 : Int32) (u : SX) (H : Heap) (locs : List Loc) (ls : Array Slot) (h : GX12_most__0_106 k47 z2 z3 z4 z5 u = some (r, u')) (hP : va_P D vwCl (VM cy ad st u) H) (hS : va_S (Ax (AM ad) s.heap.size) s.heap H locs) (hl : lv_has ls 6 [(0, .ref (ad 0)), (2, .int z2), (3, .int z3), (4, .int z4), (5, .int z5)]) : W p l e rmX12_most__0 s m args below meth c H locs 0 0 (MQ below (Qi D (VM cy ad st) (AM ad) s.heap.size r u') args s 0 0 (Ax (AM ad) s.heap.size)) (F0 m 106 ls []) := by
  unfold GX12_most__0_106 at h
  refine lv_iinc (v := z5 + 1) (lv' := [(5, .int (z5 + 1)), (0, .ref (ad 0)), (2, .int z2), (3, .int z3), (4, .int z4)]) C.1 C.2.1 dX12_most__106 hl (k := 4) rfl rfl (by decide) rfl (fun ls hl => ?_)
  replace hl := lv_sub (l' := [(0, .ref (ad 0)), (2, .int z2), (3, .int z3), (4, .int z4), (5, .int (z5 + 1))]) hl [1, 2, 3, 4, 0] rfl
  refine lv_goto (tgt := 47) C.1 C.2.1 dX12_most__109 (by decide) ?_
  exact hk47 _ _ _ _ _ _ _ _ h hP hS hl
set_option maxHeartbeats 4000000 in
set_option maxRecDepth 100000 in
theorem wLX12_most__0_47 {p : Program} {l : Launch} {e : Env} {s : State} {m : MethodId} {args : Array Value} {below : List Frame} {meth : Method} {c : Code} {D : va_G} {cy : Nat → ClassId} {ad st : Nat → Nat} (C : Cx RX12 cX12_most_ 6 (some .int) wsX12_most_ p s m args meth c) (hK : Kx D [(cy 0, .int), (cy 1, .long), (cy 2, .boolean), (cy 3, .byte), (cy 4, .object "HissHorn$Text")] st s) (hJ : JM ad) {r : Int32} {u' : SX}   : ∀ (n : Nat) (z2 : Int32) (z3 : Int32) (z4 : Int32) (z5 : Int32) (u : SX) (H : Heap) (locs : List Loc) (ls : Array Slot), LX12_most__0_47  n z2 z3 z4 z5 u = some (r, u') → va_P D vwCl (VM cy ad st u) H → va_S (Ax (AM ad) s.heap.size) s.heap H locs → lv_has ls 6 [(0, .ref (ad 0)), (2, .int z2), (3, .int z3), (4, .int z4), (5, .int z5)] → W p l e rmX12_most__0 s m args below meth c H locs 0 0 (MQ below (Qi D (VM cy ad st) (AM ad) s.heap.size r u') args s 0 0 (Ax (AM ad) s.heap.size)) (F0 m 47 ls []) := by
  intro n
  induction n with
  | zero =>
    intro z2 z3 z4 z5 u H locs ls h
    exact absurd h (by intro q; cases q)
  | succ n ih =>
    intro z2 z3 z4 z5 u H locs ls h hP hS hl
    rw [LX12_most__0_47] at h
    refine lv_iload C.1 C.2.1 dX12_most__47 (lv_at hl 4 rfl) ?_
    refine lv_aload_n C.1 C.2.1 dX12_most__49 rfl (lv_at hl 0 rfl) ?_
    refine gM_0_parts C hX12_most__0_X12 hK hP mX12_most__0_3 dX12_most__50 ?_
    refine lv_icmp_ge (tgt := 112) C.1 C.2.1 dX12_most__53 (by decide) (fun c53 => ?_) (fun c53 => ?_)
    · rw [if_pos c53] at h
      refine lv_iload_n C.1 C.2.1 dX12_most__112 rfl (lv_at hl 2 rfl) ?_
      cases h
      exact rt_i C hP hS dX12_most__113
    · rw [if_neg c53] at h
      refine lv_aload_n C.1 C.2.1 dX12_most__56 rfl (lv_at hl 0 rfl) ?_
      refine gM_0_partTold C hX12_most__0_X12 hK hP mX12_most__0_4 dX12_most__57 ?_
      refine lv_iload C.1 C.2.1 dX12_most__60 (lv_at hl 4 rfl) ?_
      obtain ⟨hg16, h⟩ := gd_some h
      refine lM_10 C hK hP hg16 dX12_most__62 ?_
      refine lv_iload_n C.1 C.2.1 dX12_most__63 rfl (lv_at hl 1 rfl) ?_
      refine lv_icmp_gt (tgt := 106) C.1 C.2.1 dX12_most__64 (by decide) (fun c64 => ?_) (fun c64 => ?_)
      · rw [if_pos c64] at h
        exact wGX12_most__0_106 C hK hJ ih _ _ _ _ _ _ _ _ h hP hS hl
      · rw [if_neg c64] at h
        refine lv_aload_n C.1 C.2.1 dX12_most__67 rfl (lv_at hl 0 rfl) ?_
        refine lv_iload C.1 C.2.1 dX12_most__68 (lv_at hl 4 rfl) ?_
        obtain ⟨⟨r17, u18⟩, hc19, h⟩ := bd_some h
        try dsimp only at h
        refine cg_i (As := [.int z5]) (rest := []) C hK hP hS (metX12_most_0 l D cy ad st hJ _ z5 hc19) (cwV 1 C.2.2.2.2.2.1 gX12_most__X12_most rfl rfl rfl (by decide +kernel) ⟨(Nat.le_of_ble_eq_true rfl), (Nat.le_of_ble_eq_true rfl)⟩) 0 12 rfl rfl rfl hl.1 rfl (Nat.le_of_ble_eq_true rfl) dX12_most__70 ⟨Nat.zero_le _, Nat.zero_le _⟩ (fun H locs hP hS => ?_)
        refine lv_aload_n C.1 C.2.1 dX12_most__73 rfl (lv_at hl 0 rfl) ?_
        refine lv_iload C.1 C.2.1 dX12_most__74 (lv_at hl 4 rfl) ?_
        obtain ⟨⟨r20, u21⟩, hc22, h⟩ := bd_some h
        try dsimp only at h
        refine cg_i (As := [.int z5]) (rest := [.int r17]) C hK hP hS (metX12_least_0 l D cy ad st hJ _ z5 hc22) (cwV 1 C.2.2.2.2.2.1 gX12_most__X12_least rfl rfl rfl (by decide +kernel) ⟨(Nat.le_of_ble_eq_true rfl), (Nat.le_of_ble_eq_true rfl)⟩) 0 12 rfl rfl rfl hl.1 rfl (Nat.le_of_ble_eq_true rfl) dX12_most__76 ⟨Nat.zero_le _, Nat.zero_le _⟩ (fun H locs hP hS => ?_)
        refine lv_isub C.1 C.2.1 dX12_most__79 ?_
        refine lv_iload C.1 C.2.1 dX12_most__80 (lv_at hl 3 rfl) ?_
        refine lv_icmp_gt (tgt := 88) C.1 C.2.1 dX12_most__82 (by decide) (fun c82 => ?_) (fun c82 => ?_)
        · rw [if_pos c82] at h
          refine lv_aload_n C.1 C.2.1 dX12_most__88 rfl (lv_at hl 0 rfl) ?_
          refine lv_iload C.1 C.2.1 dX12_most__89 (lv_at hl 4 rfl) ?_
          obtain ⟨⟨r23, u24⟩, hc25, h⟩ := bd_some h
          try dsimp only at h
          refine cg_i (As := [.int z5]) (rest := []) C hK hP hS (metX12_most_0 l D cy ad st hJ _ z5 hc25) (cwV 1 C.2.2.2.2.2.1 gX12_most__X12_most rfl rfl rfl (by decide +kernel) ⟨(Nat.le_of_ble_eq_true rfl), (Nat.le_of_ble_eq_true rfl)⟩) 0 12 rfl rfl rfl hl.1 rfl (Nat.le_of_ble_eq_true rfl) dX12_most__91 ⟨Nat.zero_le _, Nat.zero_le _⟩ (fun H locs hP hS => ?_)
          refine lv_aload_n C.1 C.2.1 dX12_most__94 rfl (lv_at hl 0 rfl) ?_
          refine lv_iload C.1 C.2.1 dX12_most__95 (lv_at hl 4 rfl) ?_
          obtain ⟨⟨r26, u27⟩, hc28, h⟩ := bd_some h
          try dsimp only at h
          refine cg_i (As := [.int z5]) (rest := [.int r23]) C hK hP hS (metX12_least_0 l D cy ad st hJ _ z5 hc28) (cwV 1 C.2.2.2.2.2.1 gX12_most__X12_least rfl rfl rfl (by decide +kernel) ⟨(Nat.le_of_ble_eq_true rfl), (Nat.le_of_ble_eq_true rfl)⟩) 0 12 rfl rfl rfl hl.1 rfl (Nat.le_of_ble_eq_true rfl) dX12_most__97 ⟨Nat.zero_le _, Nat.zero_le _⟩ (fun H locs hP hS => ?_)
          refine lv_isub C.1 C.2.1 dX12_most__100 ?_
          refine lv_topi (fun v29 hv30 => ?_)
          replace h := lt_e hv30 h
          try dsimp only at h
          refine lv_istore (lv' := [(4, .int v29), (0, .ref (ad 0)), (2, .int z2), (3, .int z3), (5, .int z5)]) C.1 C.2.1 dX12_most__101 hl (by decide) rfl (fun ls hl => ?_)
          replace hl := lv_sub (l' := [(0, .ref (ad 0)), (2, .int z2), (3, .int z3), (4, .int v29), (5, .int z5)]) hl [1, 2, 3, 0, 4] rfl
          refine lv_iload C.1 C.2.1 dX12_most__103 (lv_at hl 4 rfl) ?_
          refine lv_istore_n (lv' := [(3, .int z5), (0, .ref (ad 0)), (2, .int z2), (4, .int v29), (5, .int z5)]) C.1 C.2.1 dX12_most__105 rfl hl (by decide) rfl (fun ls hl => ?_)
          replace hl := lv_sub (l' := [(0, .ref (ad 0)), (2, .int z2), (3, .int z5), (4, .int v29), (5, .int z5)]) hl [1, 2, 0, 3, 4] rfl
          exact wGX12_most__0_106 C hK hJ ih _ _ _ _ _ _ _ _ h hP hS hl
        · rw [if_neg c82] at h
          refine lv_goto (tgt := 106) C.1 C.2.1 dX12_most__85 (by decide) ?_
          exact wGX12_most__0_106 C hK hJ ih _ _ _ _ _ _ _ _ h hP hS hl
set_option maxHeartbeats 4000000 in
set_option maxRecDepth 100000 in
theorem wX12_most__0 {p : Program} {l : Launch} {e : Env} {s : State} {m : MethodId} {args : Array Value} {below : List Frame} {meth : Method} {c : Code} {D : va_G} {cy : Nat → ClassId} {ad st : Nat → Nat} (C : Cx RX12 cX12_most_ 6 (some .int) wsX12_most_ p s m args meth c) (hK : Kx D [(cy 0, .int), (cy 1, .long), (cy 2, .boolean), (cy 3, .byte), (cy 4, .object "HissHorn$Text")] st s) (hJ : JM ad) (x1 : Int32) (x2 : Int32) {u : SX} {r : Int32} {u' : SX} {H : Heap} {locs : List Loc} {ls : Array Slot} (h : fX12_most__0 x1 x2 u = some (r, u')) (hP : va_P D vwCl (VM cy ad st u) H) (hS : va_S (Ax (AM ad) s.heap.size) s.heap H locs) (hl : lv_has ls 6 [(0, .ref (ad 0)), (1, .int x1), (2, .int x2)]) : W p l e rmX12_most__0 s m args below meth c H locs 0 0 (MQ below (Qi D (VM cy ad st) (AM ad) s.heap.size r u') args s 0 0 (Ax (AM ad) s.heap.size)) (F0 m 0 ls []) := by
  unfold fX12_most__0 at h
  refine lv_aload_n C.1 C.2.1 dX12_most__0 rfl (lv_at hl 0 rfl) ?_
  refine lv_iconst (v := 0) C.1 C.2.1 dX12_most__1 (by decide) ?_
  refine pM_0_thrown C hX12_most__0_X12 hK hP hJ hS mX12_most__0_1 dX12_most__2 (fun H locs hP hS => ?_)
  obtain ⟨u1, hu2, h⟩ := lt_some h
  rw [← hu2] at hP
  refine lv_aload_n C.1 C.2.1 dX12_most__5 rfl (lv_at hl 0 rfl) ?_
  refine lv_iload_n C.1 C.2.1 dX12_most__6 rfl (lv_at hl 1 rfl) ?_
  obtain ⟨⟨r3, u4⟩, hc5, h⟩ := bd_some h
  try dsimp only at h
  refine cg_i (As := [.int x1]) (rest := []) C hK hP hS (metX12_isReading_0 l D cy ad st hJ _ x1 hc5) (cwV 1 C.2.2.2.2.2.1 gX12_most__X12_isReading rfl rfl rfl (by decide +kernel) ⟨(Nat.le_of_ble_eq_true rfl), (Nat.le_of_ble_eq_true rfl)⟩) 0 12 rfl rfl rfl hl.1 rfl (Nat.le_of_ble_eq_true rfl) dX12_most__7 ⟨Nat.zero_le _, Nat.zero_le _⟩ (fun H locs hP hS => ?_)
  refine lv_if_eq (tgt := 27) C.1 C.2.1 dX12_most__10 (by decide) (fun c10 => ?_) (fun c10 => ?_)
  · rw [if_pos c10] at h
    refine lv_iconst (v := (-1)) C.1 C.2.1 dX12_most__27 (by decide) ?_
    cases h
    exact rt_i C hP hS dX12_most__28
  · rw [if_neg c10] at h
    refine lv_aload_n C.1 C.2.1 dX12_most__13 rfl (lv_at hl 0 rfl) ?_
    refine lv_aload_n C.1 C.2.1 dX12_most__14 rfl (lv_at hl 0 rfl) ?_
    refine gM_0_readDay C hX12_most__0_X12 hK hP mX12_most__0_2 dX12_most__15 ?_
    refine lv_iload_n C.1 C.2.1 dX12_most__18 rfl (lv_at hl 1 rfl) ?_
    obtain ⟨hg6, h⟩ := gd_some h
    refine lM_21 C hK hP hg6 dX12_most__19 ?_
    refine lv_iload_n C.1 C.2.1 dX12_most__20 rfl (lv_at hl 2 rfl) ?_
    obtain ⟨⟨r7, u8⟩, hc9, h⟩ := bd_some h
    try dsimp only at h
    refine cg_i (As := [.int (u4.2.1 21 x1.toNatClampNeg), .int x2]) (rest := []) C hK hP hS (metX12_isKnown_0 l D cy ad st hJ _ (u4.2.1 21 x1.toNatClampNeg) x2 hc9) (cwV 2 C.2.2.2.2.2.1 gX12_most__X12_isKnown rfl rfl rfl (by decide +kernel) ⟨(Nat.le_of_ble_eq_true rfl), (Nat.le_of_ble_eq_true rfl)⟩) 0 12 rfl rfl rfl hl.1 rfl (Nat.le_of_ble_eq_true rfl) dX12_most__21 ⟨Nat.zero_le _, Nat.zero_le _⟩ (fun H locs hP hS => ?_)
    refine lv_if_ne (tgt := 29) C.1 C.2.1 dX12_most__24 (by decide) (fun c24 => ?_) (fun c24 => ?_)
    · rw [if_neg c24] at h
      refine lv_aload_n C.1 C.2.1 dX12_most__29 rfl (lv_at hl 0 rfl) ?_
      refine lv_iload_n C.1 C.2.1 dX12_most__30 rfl (lv_at hl 2 rfl) ?_
      obtain ⟨⟨r10, u11⟩, hc12, h⟩ := bd_some h
      try dsimp only at h
      refine cg_v (As := [.int x2]) (rest := []) C hK hP hS (metX12_laySpansOf_0 l D cy ad st hJ _ x2 hc12) (cwV 1 C.2.2.2.2.2.1 gX12_most__X12_laySpansOf rfl rfl rfl (by decide +kernel) ⟨(Nat.le_of_ble_eq_true rfl), (Nat.le_of_ble_eq_true rfl)⟩) 0 12 rfl rfl rfl hl.1 rfl (Nat.le_of_ble_eq_true rfl) dX12_most__31 ⟨Nat.zero_le _, Nat.zero_le _⟩ (fun H locs hP hS => ?_)
      refine lv_aload_n C.1 C.2.1 dX12_most__34 rfl (lv_at hl 0 rfl) ?_
      refine lv_iload_n C.1 C.2.1 dX12_most__35 rfl (lv_at hl 1 rfl) ?_
      obtain ⟨⟨r13, u14⟩, hc15, h⟩ := bd_some h
      try dsimp only at h
      refine cg_v (As := [.int x1]) (rest := []) C hK hP hS (metX12_layWorthsOf_0 l D cy ad st hJ _ x1 hc15) (cwV 1 C.2.2.2.2.2.1 gX12_most__X12_layWorthsOf rfl rfl rfl (by decide +kernel) ⟨(Nat.le_of_ble_eq_true rfl), (Nat.le_of_ble_eq_true rfl)⟩) 0 12 rfl rfl rfl hl.1 rfl (Nat.le_of_ble_eq_true rfl) dX12_most__36 ⟨Nat.zero_le _, Nat.zero_le _⟩ (fun H locs hP hS => ?_)
      refine lv_iconst (v := (-1)) C.1 C.2.1 dX12_most__39 (by decide) ?_
      refine lv_istore_n (lv' := [(3, .int (-1)), (0, .ref (ad 0)), (1, .int x1), (2, .int x2)]) C.1 C.2.1 dX12_most__40 rfl hl (by decide) rfl (fun ls hl => ?_)
      replace hl := lv_sub (l' := [(0, .ref (ad 0)), (1, .int x1), (2, .int x2), (3, .int (-1))]) hl [1, 2, 3, 0] rfl
      refine lv_iconst (v := (-1)) C.1 C.2.1 dX12_most__41 (by decide) ?_
      refine lv_istore (lv' := [(4, .int (-1)), (0, .ref (ad 0)), (1, .int x1), (2, .int x2), (3, .int (-1))]) C.1 C.2.1 dX12_most__42 hl (by decide) rfl (fun ls hl => ?_)
      replace hl := lv_sub (l' := [(0, .ref (ad 0)), (1, .int x1), (2, .int x2), (3, .int (-1)), (4, .int (-1))]) hl [1, 2, 3, 4, 0] rfl
      refine lv_iconst (v := 0) C.1 C.2.1 dX12_most__44 (by decide) ?_
      refine lv_istore (lv' := [(5, .int 0), (0, .ref (ad 0)), (1, .int x1), (2, .int x2), (3, .int (-1)), (4, .int (-1))]) C.1 C.2.1 dX12_most__45 hl (by decide) rfl (fun ls hl => ?_)
      replace hl := lv_sub (l' := [(0, .ref (ad 0)), (1, .int x1), (2, .int x2), (3, .int (-1)), (4, .int (-1)), (5, .int 0)]) hl [1, 2, 3, 4, 5, 0] rfl
      exact wLX12_most__0_47 C hK hJ  5000 _ _ _ _ _ _ _ _ h hP hS (lv_sub hl [0, 2, 3, 4, 5] rfl)
    · rw [if_pos c24] at h
      refine lv_iconst (v := (-1)) C.1 C.2.1 dX12_most__27 (by decide) ?_
      cases h
      exact rt_i C hP hS dX12_most__28
theorem metX12_most__0 (l : Launch) (D : va_G) (cy : Nat → ClassId) (ad st : Nat → Nat) (hJ : JM ad) (sz : Nat) (x1 : Int32) (x2 : Int32) {u : SX} {r : Int32} {u' : SX} (h : fX12_most__0 x1 x2 u = some (r, u')) : Met l yX12_most_ wsX12_most_ rmX12_most__0 (va_Pc [.ref (ad 0), .int x1, .int x2] (Px D [(cy 0, .int), (cy 1, .long), (cy 2, .boolean), (cy 3, .byte), (cy 4, .object "HissHorn$Text")] st (VM cy ad st) sz u)) (Qi D (VM cy ad st) (AM ad) sz r u') 0 0 (Ax (AM ad) sz) := by
  refine Met.ofW (cc := cX12_most_) (maxL := 6) (ret := (some .int)) (by decide) rfl ?_
  intro p e s m args below meth c s₁ B hml hv
  obtain ⟨rfl, hsz, hP, hK⟩ := hv
  subst hsz
  have C : Cx RX12 cX12_most_ 6 (some .int) wsX12_most_ p s m _ meth c := ⟨B.exec, B.bytes, hml, B.returns, findClass_of_methodNamed B.named, atoms_spec (ws := wsX12_most_) B.pre, B.notSynchronized⟩
  have hl := lv_entry ([.ref (ad 0), .int x1, .int x2]) (n := 6) (Nat.le_of_ble_eq_true rfl)
  rw [lg_entry_eq]
  exact wX12_most__0 C hK hJ x1 x2 h hP va_S.rf hl

theorem dX12_layAlike_107 : decode cX12_layAlike 107 = .ok (.iinc 2 1, 3) := by decide +kernel
theorem dX12_layAlike_110 : decode cX12_layAlike 110 = .ok (.goto (-98), 3) := by decide +kernel
theorem dX12_layAlike_94 : decode cX12_layAlike 94 = .ok (.putfield 371, 3) := by decide +kernel
theorem dX12_layAlike_97 : decode cX12_layAlike 97 = .ok (.aload_n 0, 1) := by decide +kernel
theorem dX12_layAlike_98 : decode cX12_layAlike 98 = .ok (.dup, 1) := by decide +kernel
theorem dX12_layAlike_99 : decode cX12_layAlike 99 = .ok (.getfield 365, 3) := by decide +kernel
theorem dX12_layAlike_102 : decode cX12_layAlike 102 = .ok (.iconst 1, 1) := by decide +kernel
theorem dX12_layAlike_103 : decode cX12_layAlike 103 = .ok (.iadd, 1) := by decide +kernel
theorem dX12_layAlike_104 : decode cX12_layAlike 104 = .ok (.putfield 365, 3) := by decide +kernel
theorem dX12_layAlike_65 : decode cX12_layAlike 65 = .ok (.putfield 368, 3) := by decide +kernel
theorem dX12_layAlike_68 : decode cX12_layAlike 68 = .ok (.aload_n 0, 1) := by decide +kernel
theorem dX12_layAlike_69 : decode cX12_layAlike 69 = .ok (.aload_n 0, 1) := by decide +kernel
theorem dX12_layAlike_70 : decode cX12_layAlike 70 = .ok (.getfield 365, 3) := by decide +kernel
theorem dX12_layAlike_73 : decode cX12_layAlike 73 = .ok (.ifCond .ne 10, 3) := by decide +kernel
theorem dX12_layAlike_83 : decode cX12_layAlike 83 = .ok (.aload_n 0, 1) := by decide +kernel
theorem dX12_layAlike_84 : decode cX12_layAlike 84 = .ok (.getfield 371, 3) := by decide +kernel
theorem dX12_layAlike_87 : decode cX12_layAlike 87 = .ok (.aload_n 0, 1) := by decide +kernel
theorem dX12_layAlike_88 : decode cX12_layAlike 88 = .ok (.getfield 349, 3) := by decide +kernel
theorem dX12_layAlike_91 : decode cX12_layAlike 91 = .ok (.invokestatic 295, 3) := by decide +kernel
theorem dX12_layAlike_76 : decode cX12_layAlike 76 = .ok (.aload_n 0, 1) := by decide +kernel
theorem dX12_layAlike_77 : decode cX12_layAlike 77 = .ok (.getfield 349, 3) := by decide +kernel
theorem dX12_layAlike_80 : decode cX12_layAlike 80 = .ok (.goto 14, 3) := by decide +kernel
theorem dX12_layAlike_12 : decode cX12_layAlike 12 = .ok (.iload_n 2, 1) := by decide +kernel
theorem dX12_layAlike_13 : decode cX12_layAlike 13 = .ok (.aload_n 0, 1) := by decide +kernel
theorem dX12_layAlike_14 : decode cX12_layAlike 14 = .ok (.getfield 335, 3) := by decide +kernel
theorem dX12_layAlike_17 : decode cX12_layAlike 17 = .ok (.if_icmp .ge 96, 3) := by decide +kernel
theorem dX12_layAlike_113 : decode cX12_layAlike 113 = .ok (.return_, 1) := by decide +kernel
theorem dX12_layAlike_20 : decode cX12_layAlike 20 = .ok (.aload_n 0, 1) := by decide +kernel
theorem dX12_layAlike_21 : decode cX12_layAlike 21 = .ok (.getfield 80, 3) := by decide +kernel
theorem dX12_layAlike_24 : decode cX12_layAlike 24 = .ok (.iload_n 2, 1) := by decide +kernel
theorem dX12_layAlike_25 : decode cX12_layAlike 25 = .ok (.iaload, 1) := by decide +kernel
theorem dX12_layAlike_26 : decode cX12_layAlike 26 = .ok (.iload_n 1, 1) := by decide +kernel
theorem dX12_layAlike_27 : decode cX12_layAlike 27 = .ok (.if_icmp .le 6, 3) := by decide +kernel
theorem dX12_layAlike_33 : decode cX12_layAlike 33 = .ok (.aload_n 0, 1) := by decide +kernel
theorem dX12_layAlike_34 : decode cX12_layAlike 34 = .ok (.iload_n 2, 1) := by decide +kernel
theorem dX12_layAlike_35 : decode cX12_layAlike 35 = .ok (.iload_n 1, 1) := by decide +kernel
set_option maxRecDepth 20000 in
theorem ggX12_layAlike_X12_layLeft : GoodIn wsX12_layAlike wsX12_layLeft := goodIn_r _ [42, 43, 4, 10, 26, 44, 45, 46, 47, 18, 48, 49, 50, 51, 52, 3, 53, 54, 55, 56, 57, 58, 59, 60, 61, 62, 63, 64, 65, 66, 67, 68, 69, 70, 71, 72, 73, 74, 75, 76, 77, 78, 79, 80, 81, 82, 83, 84, 85, 86, 87, 88, 89, 90, 91, 92, 93, 94, 95, 96, 97, 98, 99, 100, 101, 102, 103, 104, 105, 106, 107, 108, 109, 110, 111, 112, 113, 114, 115, 116, 117, 118, 119, 120, 121, 122, 123, 124, 125, 126, 127, 128, 129, 130, 131, 132, 8, 133, 134, 135, 136, 137, 138, 139, 140, 141, 142, 143, 144, 145, 146, 147, 148, 149, 150, 151, 152, 153, 154, 155, 156, 157, 158, 159, 160, 161, 162, 163, 164, 165, 166, 7, 9, 167, 13, 14, 168, 169, 170, 171, 172, 173, 174, 175, 176, 177, 178, 179, 180, 181, 182, 183, 184, 185, 186, 187, 188, 189, 190, 191, 192, 193, 194, 195, 196, 197, 198, 199, 200, 201, 202, 203, 204, 205, 206, 207, 208, 209, 210, 211, 212, 213, 214, 215, 216, 217, 218, 219, 220, 221, 222, 223, 224, 225, 226, 227, 228, 229, 230, 231, 232, 233, 234, 235, 236, 237, 238, 239, 240, 241, 242, 243, 244, 27, 29, 6, 245, 246, 247, 248, 249, 250, 251, 12, 252, 253, 254, 255, 256, 257, 258, 259, 260, 261, 262, 263, 264, 265, 266, 267, 268, 269, 270, 271, 272, 273, 274, 275, 276, 277, 278, 279, 280, 281, 282, 283, 284, 285, 286, 287, 288, 289, 290, 291, 292, 293, 294, 295, 296, 297, 298, 299, 300, 301, 302, 303, 304, 305, 306, 307, 308, 309, 310, 311, 312, 313, 314, 315, 316, 317, 318, 319, 320] (by decide +kernel) (by decide +kernel)
set_option maxRecDepth 20000 in
theorem gX12_layAlike_X12_layLeft : GoodIn wsX12_layAlike (wsV RX12 361 RX12 yX12_layLeft wsX12_layLeft) := goodIn_app (goodIn_of _ (by decide +kernel)) ggX12_layAlike_X12_layLeft
theorem dX12_layAlike_36 : decode cX12_layAlike 36 = .ok (.invokevirtual 361, 3) := by decide +kernel
theorem dX12_layAlike_39 : decode cX12_layAlike 39 = .ok (.aload_n 0, 1) := by decide +kernel
theorem dX12_layAlike_40 : decode cX12_layAlike 40 = .ok (.aload_n 0, 1) := by decide +kernel
theorem dX12_layAlike_41 : decode cX12_layAlike 41 = .ok (.getfield 365, 3) := by decide +kernel
theorem dX12_layAlike_44 : decode cX12_layAlike 44 = .ok (.ifCond .ne 10, 3) := by decide +kernel
theorem dX12_layAlike_54 : decode cX12_layAlike 54 = .ok (.aload_n 0, 1) := by decide +kernel
theorem dX12_layAlike_55 : decode cX12_layAlike 55 = .ok (.getfield 368, 3) := by decide +kernel
theorem dX12_layAlike_58 : decode cX12_layAlike 58 = .ok (.aload_n 0, 1) := by decide +kernel
theorem dX12_layAlike_59 : decode cX12_layAlike 59 = .ok (.getfield 346, 3) := by decide +kernel
theorem dX12_layAlike_62 : decode cX12_layAlike 62 = .ok (.invokestatic 293, 3) := by decide +kernel
theorem dX12_layAlike_47 : decode cX12_layAlike 47 = .ok (.aload_n 0, 1) := by decide +kernel
theorem dX12_layAlike_48 : decode cX12_layAlike 48 = .ok (.getfield 346, 3) := by decide +kernel
theorem dX12_layAlike_51 : decode cX12_layAlike 51 = .ok (.goto 14, 3) := by decide +kernel
theorem dX12_layAlike_30 : decode cX12_layAlike 30 = .ok (.goto 77, 3) := by decide +kernel
theorem dX12_layAlike_0 : decode cX12_layAlike 0 = .ok (.aload_n 0, 1) := by decide +kernel
theorem dX12_layAlike_1 : decode cX12_layAlike 1 = .ok (.iload_n 1, 1) := by decide +kernel
set_option maxRecDepth 20000 in
theorem ggX12_layAlike_X12_laySpansOf : GoodIn wsX12_layAlike wsX12_laySpansOf := goodIn_r _ [19, 20, 21, 22, 23, 24, 18, 25, 26, 27, 28, 29, 30, 31, 32, 33, 34, 35, 36, 37, 38, 6, 7, 8, 9, 12, 13, 14, 252, 253, 254, 255, 256, 257, 258, 259, 260, 261, 262, 263, 264, 265, 266, 267, 268, 269, 270, 271, 272, 273, 274, 275, 276, 277, 278, 279, 280, 281, 282, 283, 284, 285, 286, 287, 288, 289, 290, 291, 292, 293, 294, 295, 296, 297, 298, 299, 300, 301, 302, 303, 304, 305, 306, 307, 308, 309, 310, 311, 312, 313, 314, 315, 316, 317, 318, 319, 320] (by decide +kernel) (by decide +kernel)
set_option maxRecDepth 20000 in
theorem gX12_layAlike_X12_laySpansOf : GoodIn wsX12_layAlike (wsV RX12 313 RX12 yX12_laySpansOf wsX12_laySpansOf) := goodIn_app (goodIn_of _ (by decide +kernel)) ggX12_layAlike_X12_laySpansOf
theorem dX12_layAlike_2 : decode cX12_layAlike 2 = .ok (.invokevirtual 313, 3) := by decide +kernel
theorem dX12_layAlike_5 : decode cX12_layAlike 5 = .ok (.aload_n 0, 1) := by decide +kernel
theorem dX12_layAlike_6 : decode cX12_layAlike 6 = .ok (.iconst 0, 1) := by decide +kernel
theorem dX12_layAlike_7 : decode cX12_layAlike 7 = .ok (.putfield 365, 3) := by decide +kernel
theorem dX12_layAlike_10 : decode cX12_layAlike 10 = .ok (.iconst 0, 1) := by decide +kernel
theorem dX12_layAlike_11 : decode cX12_layAlike 11 = .ok (.istore_n 2, 1) := by decide +kernel
/-- HissHornModel.layAlike(I)V of cell 0 -/
def rmX12_layAlike_0 : Room := { frames := 140, cells := 0, slots := 0, locals := 8475 }
theorem hX12_layAlike_0_X12 : ∀ w ∈ u_ws RX12 TX12 69, w ∈ wsX12_layAlike := fun w h => (List.mem_cons_of_mem _ (List.mem_append_right _ h))
theorem mX12_layAlike_0_1 : Cond.fieldLink RX12 365 "HissHornModel" "knownMany" "I" ∈ wsX12_layAlike := (List.mem_cons_of_mem _ (List.mem_append_left _ (List.mem_append_left _ (List.mem_of_getElem? (i := 0) rfl))))
theorem mX12_layAlike_0_2 : Cond.fieldLink RX12 335 "HissHornModel" "readings" "I" ∈ wsX12_layAlike := (List.mem_cons_of_mem _ (List.mem_append_left _ (List.mem_append_left _ (List.mem_of_getElem? (i := 1) rfl))))
theorem mX12_layAlike_0_3 : Cond.fieldLink RX12 80 "HissHornModel" "readDay" "[I" ∈ wsX12_layAlike := (List.mem_cons_of_mem _ (List.mem_append_left _ (List.mem_append_left _ (List.mem_of_getElem? (i := 2) rfl))))
theorem mX12_layAlike_0_4 : Cond.fieldLink RX12 368 "HissHornModel" "alikeFrom" "I" ∈ wsX12_layAlike := (List.mem_cons_of_mem _ (List.mem_append_left _ (List.mem_append_left _ (List.mem_of_getElem? (i := 4) rfl))))
theorem mX12_layAlike_0_5 : Cond.fieldLink RX12 346 "HissHornModel" "leftFrom" "I" ∈ wsX12_layAlike := (List.mem_cons_of_mem _ (List.mem_append_left _ (List.mem_append_left _ (List.mem_of_getElem? (i := 3) rfl))))
theorem mX12_layAlike_0_6 : Cond.methodLink RX12 293 Lib.Math.max.name ∈ wsX12_layAlike := (List.mem_cons_of_mem _ (List.mem_append_left _ (List.mem_append_left _ (List.mem_of_getElem? (i := 5) rfl))))
theorem mX12_layAlike_0_7 : Cond.static Lib.Math.max.name ∈ wsX12_layAlike := (List.mem_cons_of_mem _ (List.mem_append_left _ (List.mem_append_left _ (List.mem_of_getElem? (i := 6) rfl))))
theorem mX12_layAlike_0_8 : Cond.initialized "java/lang/Math" ∈ wsX12_layAlike := (List.mem_cons_of_mem _ (List.mem_append_left _ (List.mem_append_left _ (List.mem_of_getElem? (i := 7) rfl))))
theorem mX12_layAlike_0_9 : Cond.code Lib.Math.max.name Lib.Math.max.code 2 (some .int) ∈ wsX12_layAlike := (List.mem_cons_of_mem _ (List.mem_append_left _ (List.mem_append_left _ (List.mem_of_getElem? (i := 8) rfl))))
theorem mX12_layAlike_0_10 : Cond.fieldLink RX12 371 "HissHornModel" "alikeTo" "I" ∈ wsX12_layAlike := (List.mem_cons_of_mem _ (List.mem_append_left _ (List.mem_append_left _ (List.mem_of_getElem? (i := 10) rfl))))
theorem mX12_layAlike_0_11 : Cond.fieldLink RX12 349 "HissHornModel" "leftTo" "I" ∈ wsX12_layAlike := (List.mem_cons_of_mem _ (List.mem_append_left _ (List.mem_append_left _ (List.mem_of_getElem? (i := 9) rfl))))
theorem mX12_layAlike_0_12 : Cond.methodLink RX12 295 Lib.Math.min.name ∈ wsX12_layAlike := (List.mem_cons_of_mem _ (List.mem_append_left _ (List.mem_append_left _ (List.mem_of_getElem? (i := 11) rfl))))
theorem mX12_layAlike_0_13 : Cond.static Lib.Math.min.name ∈ wsX12_layAlike := (List.mem_cons_of_mem _ (List.mem_append_left _ (List.mem_append_left _ (List.mem_of_getElem? (i := 12) rfl))))
theorem mX12_layAlike_0_14 : Cond.code Lib.Math.min.name Lib.Math.min.code 2 (some .int) ∈ wsX12_layAlike := (List.mem_cons_of_mem _ (List.mem_append_left _ (List.mem_append_left _ (List.mem_of_getElem? (i := 13) rfl))))
def GX12_layAlike_0_107 (k12 : Int32 → Int32 → SX → Option (Int32 × SX)) (z1 : Int32) (z2 : Int32) (u : SX) : Option (Int32 × SX) := (k12 z1 (z2 + 1) u)
def GX12_layAlike_0_94 (k12 : Int32 → Int32 → SX → Option (Int32 × SX)) (z1 : Int32) (z2 : Int32) (y0 : Int32) (u : SX) : Option (Int32 × SX) := (lt (sI u 20 y0) fun u12 => (lt (sI u12 18 ((u12.1 18) + 1)) fun u14 => (GX12_layAlike_0_107 k12 z1 z2 u14)))
def GX12_layAlike_0_65 (k12 : Int32 → Int32 → SX → Option (Int32 × SX)) (z1 : Int32) (z2 : Int32) (y0 : Int32) (u : SX) : Option (Int32 × SX) := (lt (sI u 19 y0) fun u10 => (if (u10.1 18) = 0 then (GX12_layAlike_0_94 k12 z1 z2 (u10.1 17) u10) else (GX12_layAlike_0_94 k12 z1 z2 (if (u10.1 17) < (u10.1 20) then (u10.1 17) else (u10.1 20)) u10)))
def LX12_layAlike_0_12  : Nat → Int32 → Int32 → SX → Option (Int32 × SX)
  | 0, _, _, _ => none
  | n + 1, z1, z2, u => (if (u.1 15) ≤ z2 then (some (0, u)) else (gd (inb z2 80) (if (u.2.1 21 z2.toNatClampNeg) ≤ z1 then ((fX12_layLeft_0 z2 z1 u).bind fun q => match q with | (r7, u8) => (if (u8.1 18) = 0 then (GX12_layAlike_0_65 (LX12_layAlike_0_12 n) z1 z2 (u8.1 16) u8) else (GX12_layAlike_0_65 (LX12_layAlike_0_12 n) z1 z2 (if (u8.1 19) < (u8.1 16) then (u8.1 16) else (u8.1 19)) u8))) else (GX12_layAlike_0_107 (LX12_layAlike_0_12 n) z1 z2 u))))
def fX12_layAlike_0 (x1 : Int32) (u : SX) : Option (Int32 × SX) := ((fX12_laySpansOf_0 x1 u).bind fun q => match q with | (r1, u2) => (lt (sI u2 18 0) fun u4 => (LX12_layAlike_0_12  5000 x1 0 u4)))
set_option maxHeartbeats 4000000 in
set_option maxRecDepth 100000 in
theorem wGX12_layAlike_0_107 {p : Program} {l : Launch} {e : Env} {s : State} {m : MethodId} {args : Array Value} {below : List Frame} {meth : Method} {c : Code} {D : va_G} {cy : Nat → ClassId} {ad st : Nat → Nat} (C : Cx RX12 cX12_layAlike 3 none wsX12_layAlike p s m args meth c) (hK : Kx D [(cy 0, .int), (cy 1, .long), (cy 2, .boolean), (cy 3, .byte), (cy 4, .object "HissHorn$Text")] st s) (hJ : JM ad) {r : Int32} {u' : SX} {k12 : Int32 → Int32 → SX → Option (Int32 × SX)} (hk12 : ∀ (z1 : Int32) (z2 : Int32) (u : SX) (H : Heap) (locs : List Loc) (ls : Array Slot), k12 z1 z2 u = some (r, u') → va_P D vwCl (VM cy ad st u) H → va_S (Ax (AM ad) s.heap.size) s.heap H locs → lv_has ls 3 [(0, .ref (ad 0)), (1, .int z1), (2, .int z2)] → W p l e rmX12_layAlike_0 s m args below meth c H locs 0 0 (MQ below (Qv D (VM cy ad st) (AM ad) s.heap.size r u') args s 0 0 (Ax (AM ad) s.heap.size)) (F0 m 12 ls [])) (z1 : Int32) (z2 : Int32) (u : SX) (H : Heap) (locs : List Loc) (ls : Array Slot) (h : GX12_layAlike_0_107 k12 z1 z2 u = some (r, u')) (hP : va_P D vwCl (VM cy ad st u) H) (hS : va_S (Ax (AM ad) s.heap.size) s.heap H locs) (hl : lv_has ls 3 [(0, .ref (ad 0)), (1, .int z1), (2, .int z2)]) : W p l e rmX12_layAlike_0 s m args below meth c H locs 0 0 (MQ below (Qv D (VM cy ad st) (AM ad) s.heap.size r u') args s 0 0 (Ax (AM ad) s.heap.size)) (F0 m 107 ls []) := by
  unfold GX12_layAlike_0_107 at h
  refine lv_iinc (v := z2 + 1) (lv' := [(2, .int (z2 + 1)), (0, .ref (ad 0)), (1, .int z1)]) C.1 C.2.1 dX12_layAlike_107 hl (k := 2) rfl rfl (by decide) rfl (fun ls hl => ?_)
  replace hl := lv_sub (l' := [(0, .ref (ad 0)), (1, .int z1), (2, .int (z2 + 1))]) hl [1, 2, 0] rfl
  refine lv_goto (tgt := 12) C.1 C.2.1 dX12_layAlike_110 (by decide) ?_
  exact hk12 _ _ _ _ _ _ h hP hS hl
set_option maxHeartbeats 4000000 in
set_option maxRecDepth 100000 in
theorem wGX12_layAlike_0_94 {p : Program} {l : Launch} {e : Env} {s : State} {m : MethodId} {args : Array Value} {below : List Frame} {meth : Method} {c : Code} {D : va_G} {cy : Nat → ClassId} {ad st : Nat → Nat} (C : Cx RX12 cX12_layAlike 3 none wsX12_layAlike p s m args meth c) (hK : Kx D [(cy 0, .int), (cy 1, .long), (cy 2, .boolean), (cy 3, .byte), (cy 4, .object "HissHorn$Text")] st s) (hJ : JM ad) {r : Int32} {u' : SX} {k12 : Int32 → Int32 → SX → Option (Int32 × SX)} (hk12 : ∀ (z1 : Int32) (z2 : Int32) (u : SX) (H : Heap) (locs : List Loc) (ls : Array Slot), k12 z1 z2 u = some (r, u') → va_P D vwCl (VM cy ad st u) H → va_S (Ax (AM ad) s.heap.size) s.heap H locs → lv_has ls 3 [(0, .ref (ad 0)), (1, .int z1), (2, .int z2)] → W p l e rmX12_layAlike_0 s m args below meth c H locs 0 0 (MQ below (Qv D (VM cy ad st) (AM ad) s.heap.size r u') args s 0 0 (Ax (AM ad) s.heap.size)) (F0 m 12 ls [])) (z1 : Int32) (z2 : Int32) (y0 : Int32) (u : SX) (H : Heap) (locs : List Loc) (ls : Array Slot) (h : GX12_layAlike_0_94 k12 z1 z2 y0 u = some (r, u')) (hP : va_P D vwCl (VM cy ad st u) H) (hS : va_S (Ax (AM ad) s.heap.size) s.heap H locs) (hl : lv_has ls 3 [(0, .ref (ad 0)), (1, .int z1), (2, .int z2)]) : W p l e rmX12_layAlike_0 s m args below meth c H locs 0 0 (MQ below (Qv D (VM cy ad st) (AM ad) s.heap.size r u') args s 0 0 (Ax (AM ad) s.heap.size)) (F0 m 94 ls [.int y0, .ref (ad 0)]) := by
  unfold GX12_layAlike_0_94 at h
  refine pM_0_alikeTo C hX12_layAlike_0_X12 hK hP hJ hS mX12_layAlike_0_10 dX12_layAlike_94 (fun H locs hP hS => ?_)
  obtain ⟨u12, hu13, h⟩ := lt_some h
  rw [← hu13] at hP
  refine lv_aload_n C.1 C.2.1 dX12_layAlike_97 rfl (lv_at hl 0 rfl) ?_
  refine lv_dup C.1 C.2.1 dX12_layAlike_98 rfl ?_
  refine gM_0_knownMany C hX12_layAlike_0_X12 hK hP mX12_layAlike_0_1 dX12_layAlike_99 ?_
  refine lv_iconst (v := 1) C.1 C.2.1 dX12_layAlike_102 (by decide) ?_
  refine lv_iadd C.1 C.2.1 dX12_layAlike_103 ?_
  refine pM_0_knownMany C hX12_layAlike_0_X12 hK hP hJ hS mX12_layAlike_0_1 dX12_layAlike_104 (fun H locs hP hS => ?_)
  obtain ⟨u14, hu15, h⟩ := lt_some h
  rw [← hu15] at hP
  exact wGX12_layAlike_0_107 C hK hJ hk12 _ _ _ _ _ _ h hP hS hl
set_option maxHeartbeats 4000000 in
set_option maxRecDepth 100000 in
theorem wGX12_layAlike_0_65 {p : Program} {l : Launch} {e : Env} {s : State} {m : MethodId} {args : Array Value} {below : List Frame} {meth : Method} {c : Code} {D : va_G} {cy : Nat → ClassId} {ad st : Nat → Nat} (C : Cx RX12 cX12_layAlike 3 none wsX12_layAlike p s m args meth c) (hK : Kx D [(cy 0, .int), (cy 1, .long), (cy 2, .boolean), (cy 3, .byte), (cy 4, .object "HissHorn$Text")] st s) (hJ : JM ad) {r : Int32} {u' : SX} {k12 : Int32 → Int32 → SX → Option (Int32 × SX)} (hk12 : ∀ (z1 : Int32) (z2 : Int32) (u : SX) (H : Heap) (locs : List Loc) (ls : Array Slot), k12 z1 z2 u = some (r, u') → va_P D vwCl (VM cy ad st u) H → va_S (Ax (AM ad) s.heap.size) s.heap H locs → lv_has ls 3 [(0, .ref (ad 0)), (1, .int z1), (2, .int z2)] → W p l e rmX12_layAlike_0 s m args below meth c H locs 0 0 (MQ below (Qv D (VM cy ad st) (AM ad) s.heap.size r u') args s 0 0 (Ax (AM ad) s.heap.size)) (F0 m 12 ls [])) (z1 : Int32) (z2 : Int32) (y0 : Int32) (u : SX) (H : Heap) (locs : List Loc) (ls : Array Slot) (h : GX12_layAlike_0_65 k12 z1 z2 y0 u = some (r, u')) (hP : va_P D vwCl (VM cy ad st u) H) (hS : va_S (Ax (AM ad) s.heap.size) s.heap H locs) (hl : lv_has ls 3 [(0, .ref (ad 0)), (1, .int z1), (2, .int z2)]) : W p l e rmX12_layAlike_0 s m args below meth c H locs 0 0 (MQ below (Qv D (VM cy ad st) (AM ad) s.heap.size r u') args s 0 0 (Ax (AM ad) s.heap.size)) (F0 m 65 ls [.int y0, .ref (ad 0)]) := by
  unfold GX12_layAlike_0_65 at h
  refine pM_0_alikeFrom C hX12_layAlike_0_X12 hK hP hJ hS mX12_layAlike_0_4 dX12_layAlike_65 (fun H locs hP hS => ?_)
  obtain ⟨u10, hu11, h⟩ := lt_some h
  rw [← hu11] at hP
  refine lv_aload_n C.1 C.2.1 dX12_layAlike_68 rfl (lv_at hl 0 rfl) ?_
  refine lv_aload_n C.1 C.2.1 dX12_layAlike_69 rfl (lv_at hl 0 rfl) ?_
  refine gM_0_knownMany C hX12_layAlike_0_X12 hK hP mX12_layAlike_0_1 dX12_layAlike_70 ?_
  refine lv_if_ne (tgt := 83) C.1 C.2.1 dX12_layAlike_73 (by decide) (fun c73 => ?_) (fun c73 => ?_)
  · rw [if_neg c73] at h
    refine lv_aload_n C.1 C.2.1 dX12_layAlike_83 rfl (lv_at hl 0 rfl) ?_
    refine gM_0_alikeTo C hX12_layAlike_0_X12 hK hP mX12_layAlike_0_10 dX12_layAlike_84 ?_
    refine lv_aload_n C.1 C.2.1 dX12_layAlike_87 rfl (lv_at hl 0 rfl) ?_
    refine gM_0_leftTo C hX12_layAlike_0_X12 hK hP mX12_layAlike_0_11 dX12_layAlike_88 ?_
    refine va_mmin C.1 C.2.1 (C.2.2.1.trans hl.1.symm) C.2.2.2.2.1 (C.2.2.2.2.2.1 _ mX12_layAlike_0_12) (C.2.2.2.2.2.1 _ mX12_layAlike_0_13) (C.2.2.2.2.2.1 _ mX12_layAlike_0_8) (C.2.2.2.2.2.1 _ mX12_layAlike_0_14) (Nat.le_of_ble_eq_true rfl) (Nat.le_of_ble_eq_true rfl) (Nat.zero_le _) (Nat.zero_le _) dX12_layAlike_91 ?_
    exact wGX12_layAlike_0_94 C hK hJ hk12 _ _ _ _ _ _ _ h hP hS hl
  · rw [if_pos c73] at h
    refine lv_aload_n C.1 C.2.1 dX12_layAlike_76 rfl (lv_at hl 0 rfl) ?_
    refine gM_0_leftTo C hX12_layAlike_0_X12 hK hP mX12_layAlike_0_11 dX12_layAlike_77 ?_
    refine lv_goto (tgt := 94) C.1 C.2.1 dX12_layAlike_80 (by decide) ?_
    exact wGX12_layAlike_0_94 C hK hJ hk12 _ _ _ _ _ _ _ h hP hS hl
set_option maxHeartbeats 4000000 in
set_option maxRecDepth 100000 in
theorem wLX12_layAlike_0_12 {p : Program} {l : Launch} {e : Env} {s : State} {m : MethodId} {args : Array Value} {below : List Frame} {meth : Method} {c : Code} {D : va_G} {cy : Nat → ClassId} {ad st : Nat → Nat} (C : Cx RX12 cX12_layAlike 3 none wsX12_layAlike p s m args meth c) (hK : Kx D [(cy 0, .int), (cy 1, .long), (cy 2, .boolean), (cy 3, .byte), (cy 4, .object "HissHorn$Text")] st s) (hJ : JM ad) {r : Int32} {u' : SX}   : ∀ (n : Nat) (z1 : Int32) (z2 : Int32) (u : SX) (H : Heap) (locs : List Loc) (ls : Array Slot), LX12_layAlike_0_12  n z1 z2 u = some (r, u') → va_P D vwCl (VM cy ad st u) H → va_S (Ax (AM ad) s.heap.size) s.heap H locs → lv_has ls 3 [(0, .ref (ad 0)), (1, .int z1), (2, .int z2)] → W p l e rmX12_layAlike_0 s m args below meth c H locs 0 0 (MQ below (Qv D (VM cy ad st) (AM ad) s.heap.size r u') args s 0 0 (Ax (AM ad) s.heap.size)) (F0 m 12 ls []) := by
  intro n
  induction n with
  | zero =>
    intro z1 z2 u H locs ls h
    exact absurd h (by intro q; cases q)
  | succ n ih =>
    intro z1 z2 u H locs ls h hP hS hl
    rw [LX12_layAlike_0_12] at h
    refine lv_iload_n C.1 C.2.1 dX12_layAlike_12 rfl (lv_at hl 2 rfl) ?_
    refine lv_aload_n C.1 C.2.1 dX12_layAlike_13 rfl (lv_at hl 0 rfl) ?_
    refine gM_0_readings C hX12_layAlike_0_X12 hK hP mX12_layAlike_0_2 dX12_layAlike_14 ?_
    refine lv_icmp_ge (tgt := 113) C.1 C.2.1 dX12_layAlike_17 (by decide) (fun c17 => ?_) (fun c17 => ?_)
    · rw [if_pos c17] at h
      cases h
      exact rt_v C hP hS dX12_layAlike_113
    · rw [if_neg c17] at h
      refine lv_aload_n C.1 C.2.1 dX12_layAlike_20 rfl (lv_at hl 0 rfl) ?_
      refine gM_0_readDay C hX12_layAlike_0_X12 hK hP mX12_layAlike_0_3 dX12_layAlike_21 ?_
      refine lv_iload_n C.1 C.2.1 dX12_layAlike_24 rfl (lv_at hl 2 rfl) ?_
      obtain ⟨hg6, h⟩ := gd_some h
      refine lM_21 C hK hP hg6 dX12_layAlike_25 ?_
      refine lv_iload_n C.1 C.2.1 dX12_layAlike_26 rfl (lv_at hl 1 rfl) ?_
      refine lv_icmp_le (tgt := 33) C.1 C.2.1 dX12_layAlike_27 (by decide) (fun c27 => ?_) (fun c27 => ?_)
      · rw [if_pos c27] at h
        refine lv_aload_n C.1 C.2.1 dX12_layAlike_33 rfl (lv_at hl 0 rfl) ?_
        refine lv_iload_n C.1 C.2.1 dX12_layAlike_34 rfl (lv_at hl 2 rfl) ?_
        refine lv_iload_n C.1 C.2.1 dX12_layAlike_35 rfl (lv_at hl 1 rfl) ?_
        obtain ⟨⟨r7, u8⟩, hc9, h⟩ := bd_some h
        try dsimp only at h
        refine cg_v (As := [.int z2, .int z1]) (rest := []) C hK hP hS (metX12_layLeft_0 l D cy ad st hJ _ z2 z1 hc9) (cwV 2 C.2.2.2.2.2.1 gX12_layAlike_X12_layLeft rfl rfl rfl (by decide +kernel) ⟨(Nat.le_of_ble_eq_true rfl), (Nat.le_of_ble_eq_true rfl)⟩) 0 12 rfl rfl rfl hl.1 rfl (Nat.le_of_ble_eq_true rfl) dX12_layAlike_36 ⟨Nat.zero_le _, Nat.zero_le _⟩ (fun H locs hP hS => ?_)
        refine lv_aload_n C.1 C.2.1 dX12_layAlike_39 rfl (lv_at hl 0 rfl) ?_
        refine lv_aload_n C.1 C.2.1 dX12_layAlike_40 rfl (lv_at hl 0 rfl) ?_
        refine gM_0_knownMany C hX12_layAlike_0_X12 hK hP mX12_layAlike_0_1 dX12_layAlike_41 ?_
        refine lv_if_ne (tgt := 54) C.1 C.2.1 dX12_layAlike_44 (by decide) (fun c44 => ?_) (fun c44 => ?_)
        · rw [if_neg c44] at h
          refine lv_aload_n C.1 C.2.1 dX12_layAlike_54 rfl (lv_at hl 0 rfl) ?_
          refine gM_0_alikeFrom C hX12_layAlike_0_X12 hK hP mX12_layAlike_0_4 dX12_layAlike_55 ?_
          refine lv_aload_n C.1 C.2.1 dX12_layAlike_58 rfl (lv_at hl 0 rfl) ?_
          refine gM_0_leftFrom C hX12_layAlike_0_X12 hK hP mX12_layAlike_0_5 dX12_layAlike_59 ?_
          refine va_mmax C.1 C.2.1 (C.2.2.1.trans hl.1.symm) C.2.2.2.2.1 (C.2.2.2.2.2.1 _ mX12_layAlike_0_6) (C.2.2.2.2.2.1 _ mX12_layAlike_0_7) (C.2.2.2.2.2.1 _ mX12_layAlike_0_8) (C.2.2.2.2.2.1 _ mX12_layAlike_0_9) (Nat.le_of_ble_eq_true rfl) (Nat.le_of_ble_eq_true rfl) (Nat.zero_le _) (Nat.zero_le _) dX12_layAlike_62 ?_
          exact wGX12_layAlike_0_65 C hK hJ ih _ _ _ _ _ _ _ h hP hS hl
        · rw [if_pos c44] at h
          refine lv_aload_n C.1 C.2.1 dX12_layAlike_47 rfl (lv_at hl 0 rfl) ?_
          refine gM_0_leftFrom C hX12_layAlike_0_X12 hK hP mX12_layAlike_0_5 dX12_layAlike_48 ?_
          refine lv_goto (tgt := 65) C.1 C.2.1 dX12_layAlike_51 (by decide) ?_
          exact wGX12_layAlike_0_65 C hK hJ ih _ _ _ _ _ _ _ h hP hS hl
      · rw [if_neg c27] at h
        refine lv_goto (tgt := 107) C.1 C.2.1 dX12_layAlike_30 (by decide) ?_
        exact wGX12_layAlike_0_107 C hK hJ ih _ _ _ _ _ _ h hP hS hl
set_option maxHeartbeats 4000000 in
set_option maxRecDepth 100000 in
theorem wX12_layAlike_0 {p : Program} {l : Launch} {e : Env} {s : State} {m : MethodId} {args : Array Value} {below : List Frame} {meth : Method} {c : Code} {D : va_G} {cy : Nat → ClassId} {ad st : Nat → Nat} (C : Cx RX12 cX12_layAlike 3 none wsX12_layAlike p s m args meth c) (hK : Kx D [(cy 0, .int), (cy 1, .long), (cy 2, .boolean), (cy 3, .byte), (cy 4, .object "HissHorn$Text")] st s) (hJ : JM ad) (x1 : Int32) {u : SX} {r : Int32} {u' : SX} {H : Heap} {locs : List Loc} {ls : Array Slot} (h : fX12_layAlike_0 x1 u = some (r, u')) (hP : va_P D vwCl (VM cy ad st u) H) (hS : va_S (Ax (AM ad) s.heap.size) s.heap H locs) (hl : lv_has ls 3 [(0, .ref (ad 0)), (1, .int x1)]) : W p l e rmX12_layAlike_0 s m args below meth c H locs 0 0 (MQ below (Qv D (VM cy ad st) (AM ad) s.heap.size r u') args s 0 0 (Ax (AM ad) s.heap.size)) (F0 m 0 ls []) := by
  unfold fX12_layAlike_0 at h
  refine lv_aload_n C.1 C.2.1 dX12_layAlike_0 rfl (lv_at hl 0 rfl) ?_
  refine lv_iload_n C.1 C.2.1 dX12_layAlike_1 rfl (lv_at hl 1 rfl) ?_
  obtain ⟨⟨r1, u2⟩, hc3, h⟩ := bd_some h
  try dsimp only at h
  refine cg_v (As := [.int x1]) (rest := []) C hK hP hS (metX12_laySpansOf_0 l D cy ad st hJ _ x1 hc3) (cwV 1 C.2.2.2.2.2.1 gX12_layAlike_X12_laySpansOf rfl rfl rfl (by decide +kernel) ⟨(Nat.le_of_ble_eq_true rfl), (Nat.le_of_ble_eq_true rfl)⟩) 0 12 rfl rfl rfl hl.1 rfl (Nat.le_of_ble_eq_true rfl) dX12_layAlike_2 ⟨Nat.zero_le _, Nat.zero_le _⟩ (fun H locs hP hS => ?_)
  refine lv_aload_n C.1 C.2.1 dX12_layAlike_5 rfl (lv_at hl 0 rfl) ?_
  refine lv_iconst (v := 0) C.1 C.2.1 dX12_layAlike_6 (by decide) ?_
  refine pM_0_knownMany C hX12_layAlike_0_X12 hK hP hJ hS mX12_layAlike_0_1 dX12_layAlike_7 (fun H locs hP hS => ?_)
  obtain ⟨u4, hu5, h⟩ := lt_some h
  rw [← hu5] at hP
  refine lv_iconst (v := 0) C.1 C.2.1 dX12_layAlike_10 (by decide) ?_
  refine lv_istore_n (lv' := [(2, .int 0), (0, .ref (ad 0)), (1, .int x1)]) C.1 C.2.1 dX12_layAlike_11 rfl hl (by decide) rfl (fun ls hl => ?_)
  replace hl := lv_sub (l' := [(0, .ref (ad 0)), (1, .int x1), (2, .int 0)]) hl [1, 2, 0] rfl
  exact wLX12_layAlike_0_12 C hK hJ  5000 _ _ _ _ _ _ h hP hS hl
theorem metX12_layAlike_0 (l : Launch) (D : va_G) (cy : Nat → ClassId) (ad st : Nat → Nat) (hJ : JM ad) (sz : Nat) (x1 : Int32) {u : SX} {r : Int32} {u' : SX} (h : fX12_layAlike_0 x1 u = some (r, u')) : Met l yX12_layAlike wsX12_layAlike rmX12_layAlike_0 (va_Pc [.ref (ad 0), .int x1] (Px D [(cy 0, .int), (cy 1, .long), (cy 2, .boolean), (cy 3, .byte), (cy 4, .object "HissHorn$Text")] st (VM cy ad st) sz u)) (Qv D (VM cy ad st) (AM ad) sz r u') 0 0 (Ax (AM ad) sz) := by
  refine Met.ofW (cc := cX12_layAlike) (maxL := 3) (ret := none) (by decide) rfl ?_
  intro p e s m args below meth c s₁ B hml hv
  obtain ⟨rfl, hsz, hP, hK⟩ := hv
  subst hsz
  have C : Cx RX12 cX12_layAlike 3 none wsX12_layAlike p s m _ meth c := ⟨B.exec, B.bytes, hml, B.returns, findClass_of_methodNamed B.named, atoms_spec (ws := wsX12_layAlike) B.pre, B.notSynchronized⟩
  have hl := lv_entry ([.ref (ad 0), .int x1]) (n := 3) (Nat.le_of_ble_eq_true rfl)
  rw [lg_entry_eq]
  exact wX12_layAlike_0 C hK hJ x1 h hP va_S.rf hl

theorem dX12_alike_0 : decode cX12_alike 0 = .ok (.aload_n 0, 1) := by decide +kernel
theorem dX12_alike_1 : decode cX12_alike 1 = .ok (.iconst 0, 1) := by decide +kernel
theorem dX12_alike_2 : decode cX12_alike 2 = .ok (.putfield 151, 3) := by decide +kernel
theorem dX12_alike_5 : decode cX12_alike 5 = .ok (.iload_n 1, 1) := by decide +kernel
theorem dX12_alike_6 : decode cX12_alike 6 = .ok (.iconst 0, 1) := by decide +kernel
theorem dX12_alike_7 : decode cX12_alike 7 = .ok (.aload_n 0, 1) := by decide +kernel
theorem dX12_alike_8 : decode cX12_alike 8 = .ok (.getfield 159, 3) := by decide +kernel
set_option maxRecDepth 20000 in
theorem ggX12_alike_X12_isIn : GoodIn wsX12_alike wsX12_isIn := goodIn_r _ [10] (by decide +kernel) (by decide +kernel)
set_option maxRecDepth 20000 in
theorem gX12_alike_X12_isIn : GoodIn wsX12_alike (va_wsS RX12 155 yX12_isIn wsX12_isIn) := goodIn_app (goodIn_of _ (by decide +kernel)) ggX12_alike_X12_isIn
theorem dX12_alike_11 : decode cX12_alike 11 = .ok (.invokestatic 155, 3) := by decide +kernel
theorem dX12_alike_14 : decode cX12_alike 14 = .ok (.ifCond .eq 12, 3) := by decide +kernel
theorem dX12_alike_26 : decode cX12_alike 26 = .ok (.ldc_w 330, 3) := by decide +kernel
theorem dX12_alike_29 : decode cX12_alike 29 = .ok (.ireturn, 1) := by decide +kernel
theorem dX12_alike_17 : decode cX12_alike 17 = .ok (.iload_n 2, 1) := by decide +kernel
theorem dX12_alike_18 : decode cX12_alike 18 = .ok (.iconst 0, 1) := by decide +kernel
theorem dX12_alike_19 : decode cX12_alike 19 = .ok (.iconst 1, 1) := by decide +kernel
theorem dX12_alike_20 : decode cX12_alike 20 = .ok (.invokestatic 155, 3) := by decide +kernel
theorem dX12_alike_23 : decode cX12_alike 23 = .ok (.ifCond .ne 7, 3) := by decide +kernel
theorem dX12_alike_30 : decode cX12_alike 30 = .ok (.aload_n 0, 1) := by decide +kernel
theorem dX12_alike_31 : decode cX12_alike 31 = .ok (.iload_n 1, 1) := by decide +kernel
set_option maxRecDepth 20000 in
theorem ggX12_alike_X12_layAlike : GoodIn wsX12_alike wsX12_layAlike := goodIn_r _ [14, 4, 15, 16, 17, 5, 18, 19, 20, 21, 22, 6, 23, 24, 25, 26, 27, 28, 9, 29, 30, 31, 32, 33, 34, 35, 36, 37, 38, 39, 40, 41, 42, 43, 44, 45, 46, 47, 48, 49, 50, 51, 52, 53, 54, 55, 56, 57, 58, 59, 60, 61, 62, 63, 64, 65, 66, 67, 68, 69, 70, 71, 72, 73, 74, 75, 76, 77, 78, 79, 80, 81, 82, 83, 84, 85, 86, 87, 88, 89, 90, 91, 92, 93, 94, 95, 96, 97, 98, 99, 100, 101, 102, 103, 104, 105, 106, 107, 108, 109, 110, 111, 112, 113, 114, 115, 116, 117, 118, 119, 120, 121, 122, 123, 124, 125, 126, 127, 128, 129, 130, 131, 132, 133, 134, 135, 136, 137, 138, 139, 140, 141, 142, 143, 144, 145, 146, 147, 148, 149, 150, 151, 152, 153, 154, 155, 156, 157, 158, 159, 160, 161, 162, 163, 164, 165, 166, 167, 168, 169, 170, 171, 172, 173, 174, 175, 176, 177, 178, 179, 180, 181, 182, 183, 184, 185, 186, 187, 188, 189, 190, 191, 192, 193, 194, 195, 196, 197, 198, 199, 200, 201, 202, 203, 204, 205, 206, 207, 208, 209, 210, 211, 212, 213, 214, 215, 216, 217, 218, 219, 220, 221, 222, 223, 224, 225, 226, 227, 228, 229, 230, 231, 232, 233, 234, 235, 236, 237, 238, 239, 240, 241, 242, 243, 244, 245, 246, 247, 248, 249, 250, 251, 252, 253, 254, 255, 256, 257, 258, 259, 260, 261, 262, 263, 264, 265, 266, 267, 268, 269, 270, 271, 272, 273, 274, 275, 276, 277, 278, 279, 280, 281, 282, 283, 284, 285, 286, 287, 288, 289, 290, 291, 292, 293, 294, 295, 296, 297, 298, 299, 300, 301, 302, 303, 304, 305, 306, 307, 308, 309, 310, 311, 312, 313, 314, 315, 316, 317, 318, 319, 320, 321, 322, 323, 324, 325, 326, 327, 328, 329, 330] (by decide +kernel) (by decide +kernel)
set_option maxRecDepth 20000 in
theorem gX12_alike_X12_layAlike : GoodIn wsX12_alike (wsV RX12 374 RX12 yX12_layAlike wsX12_layAlike) := goodIn_app (goodIn_of _ (by decide +kernel)) ggX12_alike_X12_layAlike
theorem dX12_alike_32 : decode cX12_alike 32 = .ok (.invokevirtual 374, 3) := by decide +kernel
theorem dX12_alike_35 : decode cX12_alike 35 = .ok (.aload_n 0, 1) := by decide +kernel
theorem dX12_alike_36 : decode cX12_alike 36 = .ok (.getfield 365, 3) := by decide +kernel
theorem dX12_alike_39 : decode cX12_alike 39 = .ok (.ifCond .eq 14, 3) := by decide +kernel
theorem dX12_alike_53 : decode cX12_alike 53 = .ok (.ldc_w 330, 3) := by decide +kernel
theorem dX12_alike_56 : decode cX12_alike 56 = .ok (.goto 18, 3) := by decide +kernel
theorem dX12_alike_74 : decode cX12_alike 74 = .ok (.ireturn, 1) := by decide +kernel
theorem dX12_alike_42 : decode cX12_alike 42 = .ok (.aload_n 0, 1) := by decide +kernel
theorem dX12_alike_43 : decode cX12_alike 43 = .ok (.getfield 368, 3) := by decide +kernel
theorem dX12_alike_46 : decode cX12_alike 46 = .ok (.aload_n 0, 1) := by decide +kernel
theorem dX12_alike_47 : decode cX12_alike 47 = .ok (.getfield 371, 3) := by decide +kernel
theorem dX12_alike_50 : decode cX12_alike 50 = .ok (.if_icmp .le 9, 3) := by decide +kernel
theorem dX12_alike_59 : decode cX12_alike 59 = .ok (.iload_n 2, 1) := by decide +kernel
theorem dX12_alike_60 : decode cX12_alike 60 = .ok (.ifCond .ne 10, 3) := by decide +kernel
theorem dX12_alike_70 : decode cX12_alike 70 = .ok (.aload_n 0, 1) := by decide +kernel
theorem dX12_alike_71 : decode cX12_alike 71 = .ok (.getfield 371, 3) := by decide +kernel
theorem dX12_alike_63 : decode cX12_alike 63 = .ok (.aload_n 0, 1) := by decide +kernel
theorem dX12_alike_64 : decode cX12_alike 64 = .ok (.getfield 368, 3) := by decide +kernel
theorem dX12_alike_67 : decode cX12_alike 67 = .ok (.goto 7, 3) := by decide +kernel
/-- HissHornModel.alike(II)I of cell 0 -/
def rmX12_alike_0 : Room := { frames := 141, cells := 0, slots := 0, locals := 8497 }
theorem hX12_alike_0_X12 : ∀ w ∈ u_ws RX12 TX12 69, w ∈ wsX12_alike := fun w h => (List.mem_cons_of_mem _ (List.mem_append_right _ h))
theorem mX12_alike_0_1 : Cond.fieldLink RX12 151 "HissHornModel" "thrown" "I" ∈ wsX12_alike := (List.mem_cons_of_mem _ (List.mem_append_left _ (List.mem_append_left _ (List.mem_of_getElem? (i := 0) rfl))))
theorem mX12_alike_0_2 : Cond.fieldLink RX12 159 "HissHornModel" "now" "I" ∈ wsX12_alike := (List.mem_cons_of_mem _ (List.mem_append_left _ (List.mem_append_left _ (List.mem_of_getElem? (i := 1) rfl))))
theorem mX12_alike_0_3 : Cond.constant RX12 330 (-100000000) ∈ wsX12_alike := (List.mem_cons_of_mem _ (List.mem_append_left _ (List.mem_append_left _ (List.mem_of_getElem? (i := 2) rfl))))
theorem mX12_alike_0_4 : Cond.fieldLink RX12 365 "HissHornModel" "knownMany" "I" ∈ wsX12_alike := (List.mem_cons_of_mem _ (List.mem_append_left _ (List.mem_append_left _ (List.mem_of_getElem? (i := 3) rfl))))
theorem mX12_alike_0_5 : Cond.fieldLink RX12 368 "HissHornModel" "alikeFrom" "I" ∈ wsX12_alike := (List.mem_cons_of_mem _ (List.mem_append_left _ (List.mem_append_left _ (List.mem_of_getElem? (i := 4) rfl))))
theorem mX12_alike_0_6 : Cond.fieldLink RX12 371 "HissHornModel" "alikeTo" "I" ∈ wsX12_alike := (List.mem_cons_of_mem _ (List.mem_append_left _ (List.mem_append_left _ (List.mem_of_getElem? (i := 5) rfl))))
def fX12_alike_0 (x1 : Int32) (x2 : Int32) (u : SX) : Option (Int32 × SX) := (lt (sI u 0 0) fun u1 => ((fX12_isIn x1 0 (u1.1 1)).bind fun r3 => (if r3 = 0 then (some ((-100000000), u1)) else ((fX12_isIn x2 0 1).bind fun r6 => (if r6 = 0 then (some ((-100000000), u1)) else ((fX12_layAlike_0 x1 u1).bind fun q => match q with | (r9, u10) => (if (u10.1 18) = 0 then (some ((-100000000), u10)) else (if (u10.1 19) ≤ (u10.1 20) then (if x2 = 0 then (some (u10.1 19, u10)) else (some (u10.1 20, u10))) else (some ((-100000000), u10))))))))))
set_option maxHeartbeats 4000000 in
set_option maxRecDepth 100000 in
theorem wX12_alike_0 {p : Program} {l : Launch} {e : Env} {s : State} {m : MethodId} {args : Array Value} {below : List Frame} {meth : Method} {c : Code} {D : va_G} {cy : Nat → ClassId} {ad st : Nat → Nat} (C : Cx RX12 cX12_alike 3 (some .int) wsX12_alike p s m args meth c) (hK : Kx D [(cy 0, .int), (cy 1, .long), (cy 2, .boolean), (cy 3, .byte), (cy 4, .object "HissHorn$Text")] st s) (hJ : JM ad) (x1 : Int32) (x2 : Int32) {u : SX} {r : Int32} {u' : SX} {H : Heap} {locs : List Loc} {ls : Array Slot} (h : fX12_alike_0 x1 x2 u = some (r, u')) (hP : va_P D vwCl (VM cy ad st u) H) (hS : va_S (Ax (AM ad) s.heap.size) s.heap H locs) (hl : lv_has ls 3 [(0, .ref (ad 0)), (1, .int x1), (2, .int x2)]) : W p l e rmX12_alike_0 s m args below meth c H locs 0 0 (MQ below (Qi D (VM cy ad st) (AM ad) s.heap.size r u') args s 0 0 (Ax (AM ad) s.heap.size)) (F0 m 0 ls []) := by
  unfold fX12_alike_0 at h
  refine lv_aload_n C.1 C.2.1 dX12_alike_0 rfl (lv_at hl 0 rfl) ?_
  refine lv_iconst (v := 0) C.1 C.2.1 dX12_alike_1 (by decide) ?_
  refine pM_0_thrown C hX12_alike_0_X12 hK hP hJ hS mX12_alike_0_1 dX12_alike_2 (fun H locs hP hS => ?_)
  obtain ⟨u1, hu2, h⟩ := lt_some h
  rw [← hu2] at hP
  refine lv_iload_n C.1 C.2.1 dX12_alike_5 rfl (lv_at hl 1 rfl) ?_
  refine lv_iconst (v := 0) C.1 C.2.1 dX12_alike_6 (by decide) ?_
  refine lv_aload_n C.1 C.2.1 dX12_alike_7 rfl (lv_at hl 0 rfl) ?_
  refine gM_0_now C hX12_alike_0_X12 hK hP mX12_alike_0_2 dX12_alike_8 ?_
  obtain ⟨r3, hc5, h⟩ := bd_some h
  refine cs_i (As := [.int x1, .int 0, .int (u1.1 1)]) (rest := []) C hK hP hS (metX12_isIn l D cy st _ x1 0 (u1.1 1) hc5) (va_cwS 3 C.2.2.2.2.2.1 gX12_alike_X12_isIn rfl rfl rfl (by decide +kernel) ⟨(Nat.le_of_ble_eq_true rfl), (Nat.le_of_ble_eq_true rfl)⟩) rfl hl.1 rfl (Nat.le_of_ble_eq_true rfl) dX12_alike_11 ⟨Nat.zero_le _, Nat.zero_le _⟩ (fun H locs hP hS => ?_)
  refine lv_if_eq (tgt := 26) C.1 C.2.1 dX12_alike_14 (by decide) (fun c14 => ?_) (fun c14 => ?_)
  · rw [if_pos c14] at h
    refine lv_ldcw C.1 C.2.1 C.2.2.2.2.1 (C.2.2.2.2.2.1 _ mX12_alike_0_3) dX12_alike_26 ?_
    cases h
    exact rt_i C hP hS dX12_alike_29
  · rw [if_neg c14] at h
    refine lv_iload_n C.1 C.2.1 dX12_alike_17 rfl (lv_at hl 2 rfl) ?_
    refine lv_iconst (v := 0) C.1 C.2.1 dX12_alike_18 (by decide) ?_
    refine lv_iconst (v := 1) C.1 C.2.1 dX12_alike_19 (by decide) ?_
    obtain ⟨r6, hc8, h⟩ := bd_some h
    refine cs_i (As := [.int x2, .int 0, .int 1]) (rest := []) C hK hP hS (metX12_isIn l D cy st _ x2 0 1 hc8) (va_cwS 3 C.2.2.2.2.2.1 gX12_alike_X12_isIn rfl rfl rfl (by decide +kernel) ⟨(Nat.le_of_ble_eq_true rfl), (Nat.le_of_ble_eq_true rfl)⟩) rfl hl.1 rfl (Nat.le_of_ble_eq_true rfl) dX12_alike_20 ⟨Nat.zero_le _, Nat.zero_le _⟩ (fun H locs hP hS => ?_)
    refine lv_if_ne (tgt := 30) C.1 C.2.1 dX12_alike_23 (by decide) (fun c23 => ?_) (fun c23 => ?_)
    · rw [if_neg c23] at h
      refine lv_aload_n C.1 C.2.1 dX12_alike_30 rfl (lv_at hl 0 rfl) ?_
      refine lv_iload_n C.1 C.2.1 dX12_alike_31 rfl (lv_at hl 1 rfl) ?_
      obtain ⟨⟨r9, u10⟩, hc11, h⟩ := bd_some h
      try dsimp only at h
      refine cg_v (As := [.int x1]) (rest := []) C hK hP hS (metX12_layAlike_0 l D cy ad st hJ _ x1 hc11) (cwV 1 C.2.2.2.2.2.1 gX12_alike_X12_layAlike rfl rfl rfl (by decide +kernel) ⟨(Nat.le_of_ble_eq_true rfl), (Nat.le_of_ble_eq_true rfl)⟩) 0 12 rfl rfl rfl hl.1 rfl (Nat.le_of_ble_eq_true rfl) dX12_alike_32 ⟨Nat.zero_le _, Nat.zero_le _⟩ (fun H locs hP hS => ?_)
      refine lv_aload_n C.1 C.2.1 dX12_alike_35 rfl (lv_at hl 0 rfl) ?_
      refine gM_0_knownMany C hX12_alike_0_X12 hK hP mX12_alike_0_4 dX12_alike_36 ?_
      refine lv_if_eq (tgt := 53) C.1 C.2.1 dX12_alike_39 (by decide) (fun c39 => ?_) (fun c39 => ?_)
      · rw [if_pos c39] at h
        refine lv_ldcw C.1 C.2.1 C.2.2.2.2.1 (C.2.2.2.2.2.1 _ mX12_alike_0_3) dX12_alike_53 ?_
        refine lv_goto (tgt := 74) C.1 C.2.1 dX12_alike_56 (by decide) ?_
        cases h
        exact rt_i C hP hS dX12_alike_74
      · rw [if_neg c39] at h
        refine lv_aload_n C.1 C.2.1 dX12_alike_42 rfl (lv_at hl 0 rfl) ?_
        refine gM_0_alikeFrom C hX12_alike_0_X12 hK hP mX12_alike_0_5 dX12_alike_43 ?_
        refine lv_aload_n C.1 C.2.1 dX12_alike_46 rfl (lv_at hl 0 rfl) ?_
        refine gM_0_alikeTo C hX12_alike_0_X12 hK hP mX12_alike_0_6 dX12_alike_47 ?_
        refine lv_icmp_le (tgt := 59) C.1 C.2.1 dX12_alike_50 (by decide) (fun c50 => ?_) (fun c50 => ?_)
        · rw [if_pos c50] at h
          refine lv_iload_n C.1 C.2.1 dX12_alike_59 rfl (lv_at hl 2 rfl) ?_
          refine lv_if_ne (tgt := 70) C.1 C.2.1 dX12_alike_60 (by decide) (fun c60 => ?_) (fun c60 => ?_)
          · rw [if_neg c60] at h
            refine lv_aload_n C.1 C.2.1 dX12_alike_70 rfl (lv_at hl 0 rfl) ?_
            refine gM_0_alikeTo C hX12_alike_0_X12 hK hP mX12_alike_0_6 dX12_alike_71 ?_
            cases h
            exact rt_i C hP hS dX12_alike_74
          · rw [if_pos c60] at h
            refine lv_aload_n C.1 C.2.1 dX12_alike_63 rfl (lv_at hl 0 rfl) ?_
            refine gM_0_alikeFrom C hX12_alike_0_X12 hK hP mX12_alike_0_5 dX12_alike_64 ?_
            refine lv_goto (tgt := 74) C.1 C.2.1 dX12_alike_67 (by decide) ?_
            cases h
            exact rt_i C hP hS dX12_alike_74
        · rw [if_neg c50] at h
          refine lv_ldcw C.1 C.2.1 C.2.2.2.2.1 (C.2.2.2.2.2.1 _ mX12_alike_0_3) dX12_alike_53 ?_
          refine lv_goto (tgt := 74) C.1 C.2.1 dX12_alike_56 (by decide) ?_
          cases h
          exact rt_i C hP hS dX12_alike_74
    · rw [if_pos c23] at h
      refine lv_ldcw C.1 C.2.1 C.2.2.2.2.1 (C.2.2.2.2.2.1 _ mX12_alike_0_3) dX12_alike_26 ?_
      cases h
      exact rt_i C hP hS dX12_alike_29
theorem metX12_alike_0 (l : Launch) (D : va_G) (cy : Nat → ClassId) (ad st : Nat → Nat) (hJ : JM ad) (sz : Nat) (x1 : Int32) (x2 : Int32) {u : SX} {r : Int32} {u' : SX} (h : fX12_alike_0 x1 x2 u = some (r, u')) : Met l yX12_alike wsX12_alike rmX12_alike_0 (va_Pc [.ref (ad 0), .int x1, .int x2] (Px D [(cy 0, .int), (cy 1, .long), (cy 2, .boolean), (cy 3, .byte), (cy 4, .object "HissHorn$Text")] st (VM cy ad st) sz u)) (Qi D (VM cy ad st) (AM ad) sz r u') 0 0 (Ax (AM ad) sz) := by
  refine Met.ofW (cc := cX12_alike) (maxL := 3) (ret := (some .int)) (by decide) rfl ?_
  intro p e s m args below meth c s₁ B hml hv
  obtain ⟨rfl, hsz, hP, hK⟩ := hv
  subst hsz
  have C : Cx RX12 cX12_alike 3 (some .int) wsX12_alike p s m _ meth c := ⟨B.exec, B.bytes, hml, B.returns, findClass_of_methodNamed B.named, atoms_spec (ws := wsX12_alike) B.pre, B.notSynchronized⟩
  have hl := lv_entry ([.ref (ad 0), .int x1, .int x2]) (n := 3) (Nat.le_of_ble_eq_true rfl)
  rw [lg_entry_eq]
  exact wX12_alike_0 C hK hJ x1 x2 h hP va_S.rf hl

theorem dX12_layMeans_2 : decode cX12_layMeans 2 = .ok (.iload_n 3, 1) := by decide +kernel
theorem dX12_layMeans_3 : decode cX12_layMeans 3 = .ok (.bipush 41, 2) := by decide +kernel
theorem dX12_layMeans_5 : decode cX12_layMeans 5 = .ok (.if_icmp .ge 23, 3) := by decide +kernel
theorem dX12_layMeans_8 : decode cX12_layMeans 8 = .ok (.aload_n 0, 1) := by decide +kernel
theorem dX12_layMeans_9 : decode cX12_layMeans 9 = .ok (.getfield 83, 3) := by decide +kernel
theorem dX12_layMeans_12 : decode cX12_layMeans 12 = .ok (.iload_n 3, 1) := by decide +kernel
theorem dX12_layMeans_13 : decode cX12_layMeans 13 = .ok (.lconst 0, 1) := by decide +kernel
theorem dX12_layMeans_14 : decode cX12_layMeans 14 = .ok (.lastore, 1) := by decide +kernel
theorem dX12_layMeans_15 : decode cX12_layMeans 15 = .ok (.aload_n 0, 1) := by decide +kernel
theorem dX12_layMeans_16 : decode cX12_layMeans 16 = .ok (.getfield 87, 3) := by decide +kernel
theorem dX12_layMeans_19 : decode cX12_layMeans 19 = .ok (.iload_n 3, 1) := by decide +kernel
theorem dX12_layMeans_20 : decode cX12_layMeans 20 = .ok (.iconst 0, 1) := by decide +kernel
theorem dX12_layMeans_21 : decode cX12_layMeans 21 = .ok (.iastore, 1) := by decide +kernel
theorem dX12_layMeans_22 : decode cX12_layMeans 22 = .ok (.iinc 3 1, 3) := by decide +kernel
theorem dX12_layMeans_25 : decode cX12_layMeans 25 = .ok (.goto (-23), 3) := by decide +kernel
theorem dX12_layMeans_103 : decode cX12_layMeans 103 = .ok (.iinc 3 1, 3) := by decide +kernel
theorem dX12_layMeans_106 : decode cX12_layMeans 106 = .ok (.goto (-71), 3) := by decide +kernel
theorem dX12_layMeans_35 : decode cX12_layMeans 35 = .ok (.iload_n 3, 1) := by decide +kernel
theorem dX12_layMeans_36 : decode cX12_layMeans 36 = .ok (.aload_n 0, 1) := by decide +kernel
theorem dX12_layMeans_37 : decode cX12_layMeans 37 = .ok (.getfield 335, 3) := by decide +kernel
theorem dX12_layMeans_40 : decode cX12_layMeans 40 = .ok (.if_icmp .ge 69, 3) := by decide +kernel
theorem dX12_layMeans_109 : decode cX12_layMeans 109 = .ok (.return_, 1) := by decide +kernel
theorem dX12_layMeans_43 : decode cX12_layMeans 43 = .ok (.aload_n 0, 1) := by decide +kernel
theorem dX12_layMeans_44 : decode cX12_layMeans 44 = .ok (.getfield 80, 3) := by decide +kernel
theorem dX12_layMeans_47 : decode cX12_layMeans 47 = .ok (.iload_n 3, 1) := by decide +kernel
theorem dX12_layMeans_48 : decode cX12_layMeans 48 = .ok (.iaload, 1) := by decide +kernel
theorem dX12_layMeans_49 : decode cX12_layMeans 49 = .ok (.iload_n 1, 1) := by decide +kernel
theorem dX12_layMeans_50 : decode cX12_layMeans 50 = .ok (.if_icmp .le 6, 3) := by decide +kernel
theorem dX12_layMeans_56 : decode cX12_layMeans 56 = .ok (.aload_n 0, 1) := by decide +kernel
theorem dX12_layMeans_57 : decode cX12_layMeans 57 = .ok (.iload_n 3, 1) := by decide +kernel
theorem dX12_layMeans_58 : decode cX12_layMeans 58 = .ok (.iload_n 1, 1) := by decide +kernel
set_option maxRecDepth 20000 in
theorem ggX12_layMeans_X12_layLeft : GoodIn wsX12_layMeans wsX12_layLeft := goodIn_r _ [41, 42, 5, 6, 18, 43, 44, 45, 46, 10, 47, 48, 49, 50, 51, 4, 52, 53, 54, 55, 56, 57, 58, 59, 60, 61, 62, 63, 64, 65, 66, 67, 68, 69, 70, 71, 72, 73, 74, 75, 76, 77, 78, 79, 80, 81, 82, 83, 84, 85, 86, 87, 88, 89, 90, 91, 92, 93, 94, 95, 96, 97, 98, 99, 100, 101, 102, 103, 104, 105, 106, 107, 108, 109, 110, 111, 112, 113, 114, 115, 116, 117, 118, 119, 120, 121, 122, 123, 124, 125, 126, 127, 128, 129, 130, 131, 33, 132, 133, 134, 135, 136, 137, 138, 139, 140, 141, 142, 143, 144, 145, 146, 147, 148, 149, 150, 151, 152, 153, 154, 155, 156, 157, 158, 159, 160, 161, 162, 163, 164, 165, 32, 34, 166, 36, 37, 167, 168, 169, 170, 171, 172, 173, 174, 175, 176, 177, 178, 179, 180, 181, 182, 183, 184, 185, 186, 187, 188, 189, 190, 191, 192, 193, 194, 195, 196, 197, 198, 199, 200, 201, 202, 203, 204, 205, 206, 207, 208, 209, 210, 211, 212, 213, 214, 215, 216, 217, 218, 219, 220, 221, 222, 223, 224, 225, 226, 227, 228, 229, 230, 231, 232, 233, 234, 235, 236, 237, 238, 239, 240, 241, 242, 243, 19, 21, 31, 244, 245, 246, 247, 248, 249, 250, 35, 251, 252, 253, 254, 255, 256, 257, 258, 259, 260, 261, 262, 263, 264, 265, 266, 267, 268, 269, 270, 271, 272, 273, 274, 275, 276, 277, 278, 279, 280, 281, 282, 283, 284, 285, 286, 287, 288, 289, 290, 291, 292, 293, 294, 295, 296, 297, 298, 299, 300, 301, 302, 303, 304, 305, 306, 307, 308, 309, 310, 311, 312, 313, 314, 315, 316, 317, 318, 319] (by decide +kernel) (by decide +kernel)
set_option maxRecDepth 20000 in
theorem gX12_layMeans_X12_layLeft : GoodIn wsX12_layMeans (wsV RX12 361 RX12 yX12_layLeft wsX12_layLeft) := goodIn_app (goodIn_of _ (by decide +kernel)) ggX12_layMeans_X12_layLeft
theorem dX12_layMeans_59 : decode cX12_layMeans 59 = .ok (.invokevirtual 361, 3) := by decide +kernel
theorem dX12_layMeans_62 : decode cX12_layMeans 62 = .ok (.aload_n 0, 1) := by decide +kernel
theorem dX12_layMeans_63 : decode cX12_layMeans 63 = .ok (.iload_n 3, 1) := by decide +kernel
theorem dX12_layMeans_64 : decode cX12_layMeans 64 = .ok (.iload_n 2, 1) := by decide +kernel
set_option maxRecDepth 20000 in
theorem ggX12_layMeans_X12_aimOf : GoodIn wsX12_layMeans wsX12_aimOf := goodIn_r _ [51, 4, 52, 53, 54, 10, 55, 251, 252, 253, 254, 255, 256, 257, 258, 259, 260, 261, 262, 263, 264, 265, 266, 267, 268, 269, 270, 271, 272, 273, 274, 275, 276, 277, 278, 279, 280, 281, 282, 283, 284, 285, 286, 287, 288, 289, 290, 291, 292, 293, 294, 295, 296, 297, 298, 299, 300, 301, 302, 303, 304, 305, 306, 307, 308, 309, 310, 311, 312, 313, 314, 315, 316, 317, 318, 319] (by decide +kernel) (by decide +kernel)
set_option maxRecDepth 20000 in
theorem gX12_layMeans_X12_aimOf : GoodIn wsX12_layMeans (wsV RX12 340 RX12 yX12_aimOf wsX12_aimOf) := goodIn_app (goodIn_of _ (by decide +kernel)) ggX12_layMeans_X12_aimOf
theorem dX12_layMeans_65 : decode cX12_layMeans 65 = .ok (.invokevirtual 340, 3) := by decide +kernel
theorem dX12_layMeans_68 : decode cX12_layMeans 68 = .ok (.istore 4, 2) := by decide +kernel
theorem dX12_layMeans_70 : decode cX12_layMeans 70 = .ok (.aload_n 0, 1) := by decide +kernel
theorem dX12_layMeans_71 : decode cX12_layMeans 71 = .ok (.getfield 83, 3) := by decide +kernel
theorem dX12_layMeans_74 : decode cX12_layMeans 74 = .ok (.iload 4, 2) := by decide +kernel
theorem dX12_layMeans_76 : decode cX12_layMeans 76 = .ok (.dup2, 1) := by decide +kernel
theorem dX12_layMeans_77 : decode cX12_layMeans 77 = .ok (.laload, 1) := by decide +kernel
theorem dX12_layMeans_78 : decode cX12_layMeans 78 = .ok (.aload_n 0, 1) := by decide +kernel
theorem dX12_layMeans_79 : decode cX12_layMeans 79 = .ok (.getfield 346, 3) := by decide +kernel
theorem dX12_layMeans_82 : decode cX12_layMeans 82 = .ok (.aload_n 0, 1) := by decide +kernel
theorem dX12_layMeans_83 : decode cX12_layMeans 83 = .ok (.getfield 349, 3) := by decide +kernel
theorem dX12_layMeans_86 : decode cX12_layMeans 86 = .ok (.iadd, 1) := by decide +kernel
theorem dX12_layMeans_87 : decode cX12_layMeans 87 = .ok (.iconst 2, 1) := by decide +kernel
theorem dX12_layMeans_88 : decode cX12_layMeans 88 = .ok (.idiv, 1) := by decide +kernel
theorem dX12_layMeans_89 : decode cX12_layMeans 89 = .ok (.i2l, 1) := by decide +kernel
theorem dX12_layMeans_90 : decode cX12_layMeans 90 = .ok (.ladd, 1) := by decide +kernel
theorem dX12_layMeans_91 : decode cX12_layMeans 91 = .ok (.lastore, 1) := by decide +kernel
theorem dX12_layMeans_92 : decode cX12_layMeans 92 = .ok (.aload_n 0, 1) := by decide +kernel
theorem dX12_layMeans_93 : decode cX12_layMeans 93 = .ok (.getfield 87, 3) := by decide +kernel
theorem dX12_layMeans_96 : decode cX12_layMeans 96 = .ok (.iload 4, 2) := by decide +kernel
theorem dX12_layMeans_98 : decode cX12_layMeans 98 = .ok (.dup2, 1) := by decide +kernel
theorem dX12_layMeans_99 : decode cX12_layMeans 99 = .ok (.iaload, 1) := by decide +kernel
theorem dX12_layMeans_100 : decode cX12_layMeans 100 = .ok (.iconst 1, 1) := by decide +kernel
theorem dX12_layMeans_101 : decode cX12_layMeans 101 = .ok (.iadd, 1) := by decide +kernel
theorem dX12_layMeans_102 : decode cX12_layMeans 102 = .ok (.iastore, 1) := by decide +kernel
theorem dX12_layMeans_53 : decode cX12_layMeans 53 = .ok (.goto 50, 3) := by decide +kernel
theorem dX12_layMeans_28 : decode cX12_layMeans 28 = .ok (.aload_n 0, 1) := by decide +kernel
theorem dX12_layMeans_29 : decode cX12_layMeans 29 = .ok (.iload_n 1, 1) := by decide +kernel
set_option maxRecDepth 20000 in
theorem ggX12_layMeans_X12_laySpansOf : GoodIn wsX12_layMeans wsX12_laySpansOf := goodIn_r _ [11, 12, 13, 14, 15, 16, 10, 17, 18, 19, 20, 21, 22, 23, 24, 25, 26, 27, 28, 29, 30, 31, 32, 33, 34, 35, 36, 37, 251, 252, 253, 254, 255, 256, 257, 258, 259, 260, 261, 262, 263, 264, 265, 266, 267, 268, 269, 270, 271, 272, 273, 274, 275, 276, 277, 278, 279, 280, 281, 282, 283, 284, 285, 286, 287, 288, 289, 290, 291, 292, 293, 294, 295, 296, 297, 298, 299, 300, 301, 302, 303, 304, 305, 306, 307, 308, 309, 310, 311, 312, 313, 314, 315, 316, 317, 318, 319] (by decide +kernel) (by decide +kernel)
set_option maxRecDepth 20000 in
theorem gX12_layMeans_X12_laySpansOf : GoodIn wsX12_layMeans (wsV RX12 313 RX12 yX12_laySpansOf wsX12_laySpansOf) := goodIn_app (goodIn_of _ (by decide +kernel)) ggX12_layMeans_X12_laySpansOf
theorem dX12_layMeans_30 : decode cX12_layMeans 30 = .ok (.invokevirtual 313, 3) := by decide +kernel
theorem dX12_layMeans_33 : decode cX12_layMeans 33 = .ok (.iconst 0, 1) := by decide +kernel
theorem dX12_layMeans_34 : decode cX12_layMeans 34 = .ok (.istore_n 3, 1) := by decide +kernel
theorem dX12_layMeans_0 : decode cX12_layMeans 0 = .ok (.iconst 0, 1) := by decide +kernel
theorem dX12_layMeans_1 : decode cX12_layMeans 1 = .ok (.istore_n 3, 1) := by decide +kernel
/-- HissHornModel.layMeans(II)V of cell 0 -/
def rmX12_layMeans_0 : Room := { frames := 140, cells := 0, slots := 0, locals := 8475 }
theorem hX12_layMeans_0_X12 : ∀ w ∈ u_ws RX12 TX12 69, w ∈ wsX12_layMeans := fun w h => (List.mem_cons_of_mem _ (List.mem_append_right _ h))
theorem mX12_layMeans_0_1 : Cond.fieldLink RX12 83 "HissHornModel" "sums" "[J" ∈ wsX12_layMeans := (List.mem_cons_of_mem _ (List.mem_append_left _ (List.mem_append_left _ (List.mem_of_getElem? (i := 0) rfl))))
theorem mX12_layMeans_0_2 : Cond.fieldLink RX12 87 "HissHornModel" "many" "[I" ∈ wsX12_layMeans := (List.mem_cons_of_mem _ (List.mem_append_left _ (List.mem_append_left _ (List.mem_of_getElem? (i := 1) rfl))))
def LX12_layMeans_0_2 (k28 : Int32 → Int32 → SX → Option (Int32 × SX)) : Nat → Int32 → Int32 → Int32 → SX → Option (Int32 × SX)
  | 0, _, _, _, _ => none
  | n + 1, z1, z2, z3, u => (if 41 ≤ z3 then (k28 z1 z2 u) else (gd (inb z3 41) (lt (sB u 22 (vp_updL (u.2.2.2 22) z3.toNatClampNeg 0)) fun u2 => (gd (inb z3 41) (lt (sA u2 23 (upd (u2.2.1 23) z3.toNatClampNeg 0)) fun u5 => ((LX12_layMeans_0_2 k28 n) z1 z2 (z3 + 1) u5))))))
theorem mX12_layMeans_0_3 : Cond.fieldLink RX12 335 "HissHornModel" "readings" "I" ∈ wsX12_layMeans := (List.mem_cons_of_mem _ (List.mem_append_left _ (List.mem_append_left _ (List.mem_of_getElem? (i := 2) rfl))))
theorem mX12_layMeans_0_4 : Cond.fieldLink RX12 80 "HissHornModel" "readDay" "[I" ∈ wsX12_layMeans := (List.mem_cons_of_mem _ (List.mem_append_left _ (List.mem_append_left _ (List.mem_of_getElem? (i := 3) rfl))))
theorem mX12_layMeans_0_5 : Cond.fieldLink RX12 346 "HissHornModel" "leftFrom" "I" ∈ wsX12_layMeans := (List.mem_cons_of_mem _ (List.mem_append_left _ (List.mem_append_left _ (List.mem_of_getElem? (i := 4) rfl))))
theorem mX12_layMeans_0_6 : Cond.fieldLink RX12 349 "HissHornModel" "leftTo" "I" ∈ wsX12_layMeans := (List.mem_cons_of_mem _ (List.mem_append_left _ (List.mem_append_left _ (List.mem_of_getElem? (i := 5) rfl))))
def GX12_layMeans_0_103 (k35 : Int32 → Int32 → Int32 → SX → Option (Int32 × SX)) (z1 : Int32) (z2 : Int32) (z3 : Int32) (u : SX) : Option (Int32 × SX) := (k35 z1 z2 (z3 + 1) u)
def LX12_layMeans_0_35  : Nat → Int32 → Int32 → Int32 → SX → Option (Int32 × SX)
  | 0, _, _, _, _ => none
  | n + 1, z1, z2, z3, u => (if (u.1 15) ≤ z3 then (some (0, u)) else (gd (inb z3 80) (if (u.2.1 21 z3.toNatClampNeg) ≤ z1 then ((fX12_layLeft_0 z3 z1 u).bind fun q => match q with | (r11, u12) => ((fX12_aimOf_0 z3 z2 u12).bind fun q => match q with | (r14, u15) => (gd (inb r14 41) (gd (nz 2) (gd (inb r14 41) (lt (sB u15 22 (vp_updL (u15.2.2.2 22) r14.toNatClampNeg ((u15.2.2.2 22 r14.toNatClampNeg) + ((((u15.1 16) + (u15.1 17)) / 2).toInt64)))) fun u20 => (gd (inb r14 41) (gd (inb r14 41) (lt (sA u20 23 (upd (u20.2.1 23) r14.toNatClampNeg ((u20.2.1 23 r14.toNatClampNeg) + 1))) fun u24 => (GX12_layMeans_0_103 (LX12_layMeans_0_35 n) z1 z2 z3 u24)))))))))) else (GX12_layMeans_0_103 (LX12_layMeans_0_35 n) z1 z2 z3 u))))
def GX12_layMeans_0_28 (z1 : Int32) (z2 : Int32) (u : SX) : Option (Int32 × SX) := ((fX12_laySpansOf_0 z1 u).bind fun q => match q with | (r7, u8) => (LX12_layMeans_0_35  5000 z1 z2 0 u8))
def fX12_layMeans_0 (x1 : Int32) (x2 : Int32) (u : SX) : Option (Int32 × SX) := (LX12_layMeans_0_2 GX12_layMeans_0_28 5000 x1 x2 0 u)
set_option maxHeartbeats 4000000 in
set_option maxRecDepth 100000 in
theorem wLX12_layMeans_0_2 {p : Program} {l : Launch} {e : Env} {s : State} {m : MethodId} {args : Array Value} {below : List Frame} {meth : Method} {c : Code} {D : va_G} {cy : Nat → ClassId} {ad st : Nat → Nat} (C : Cx RX12 cX12_layMeans 5 none wsX12_layMeans p s m args meth c) (hK : Kx D [(cy 0, .int), (cy 1, .long), (cy 2, .boolean), (cy 3, .byte), (cy 4, .object "HissHorn$Text")] st s) (hJ : JM ad) {r : Int32} {u' : SX} {k28 : Int32 → Int32 → SX → Option (Int32 × SX)} (hk28 : ∀ (z1 : Int32) (z2 : Int32) (u : SX) (H : Heap) (locs : List Loc) (ls : Array Slot), k28 z1 z2 u = some (r, u') → va_P D vwCl (VM cy ad st u) H → va_S (Ax (AM ad) s.heap.size) s.heap H locs → lv_has ls 5 [(0, .ref (ad 0)), (1, .int z1), (2, .int z2)] → W p l e rmX12_layMeans_0 s m args below meth c H locs 0 0 (MQ below (Qv D (VM cy ad st) (AM ad) s.heap.size r u') args s 0 0 (Ax (AM ad) s.heap.size)) (F0 m 28 ls [])) : ∀ (n : Nat) (z1 : Int32) (z2 : Int32) (z3 : Int32) (u : SX) (H : Heap) (locs : List Loc) (ls : Array Slot), LX12_layMeans_0_2 k28 n z1 z2 z3 u = some (r, u') → va_P D vwCl (VM cy ad st u) H → va_S (Ax (AM ad) s.heap.size) s.heap H locs → lv_has ls 5 [(0, .ref (ad 0)), (1, .int z1), (2, .int z2), (3, .int z3)] → W p l e rmX12_layMeans_0 s m args below meth c H locs 0 0 (MQ below (Qv D (VM cy ad st) (AM ad) s.heap.size r u') args s 0 0 (Ax (AM ad) s.heap.size)) (F0 m 2 ls []) := by
  intro n
  induction n with
  | zero =>
    intro z1 z2 z3 u H locs ls h
    exact absurd h (by intro q; cases q)
  | succ n ih =>
    intro z1 z2 z3 u H locs ls h hP hS hl
    rw [LX12_layMeans_0_2] at h
    refine lv_iload_n C.1 C.2.1 dX12_layMeans_2 rfl (lv_at hl 3 rfl) ?_
    refine lv_bipush (v := 41) C.1 C.2.1 dX12_layMeans_3 (by decide) ?_
    refine lv_icmp_ge (tgt := 28) C.1 C.2.1 dX12_layMeans_5 (by decide) (fun c5 => ?_) (fun c5 => ?_)
    · rw [if_pos c5] at h
      exact hk28 _ _ _ _ _ _ h hP hS (lv_sub hl [0, 1, 2] rfl)
    · rw [if_neg c5] at h
      refine lv_aload_n C.1 C.2.1 dX12_layMeans_8 rfl (lv_at hl 0 rfl) ?_
      refine gM_0_sums C hX12_layMeans_0_X12 hK hP mX12_layMeans_0_1 dX12_layMeans_9 ?_
      refine lv_iload_n C.1 C.2.1 dX12_layMeans_12 rfl (lv_at hl 3 rfl) ?_
      refine lv_lconst (v := 0) C.1 C.2.1 dX12_layMeans_13 (by decide) ?_
      obtain ⟨hg1, h⟩ := gd_some h
      refine tM_22 C hK hP hJ hS hg1 dX12_layMeans_14 (fun H locs hP hS => ?_)
      obtain ⟨u2, hu3, h⟩ := lt_some h
      rw [← hu3] at hP
      refine lv_aload_n C.1 C.2.1 dX12_layMeans_15 rfl (lv_at hl 0 rfl) ?_
      refine gM_0_many C hX12_layMeans_0_X12 hK hP mX12_layMeans_0_2 dX12_layMeans_16 ?_
      refine lv_iload_n C.1 C.2.1 dX12_layMeans_19 rfl (lv_at hl 3 rfl) ?_
      refine lv_iconst (v := 0) C.1 C.2.1 dX12_layMeans_20 (by decide) ?_
      obtain ⟨hg4, h⟩ := gd_some h
      refine tM_23 C hK hP hJ hS hg4 dX12_layMeans_21 (fun H locs hP hS => ?_)
      obtain ⟨u5, hu6, h⟩ := lt_some h
      rw [← hu6] at hP
      refine lv_iinc (v := z3 + 1) (lv' := [(3, .int (z3 + 1)), (0, .ref (ad 0)), (1, .int z1), (2, .int z2)]) C.1 C.2.1 dX12_layMeans_22 hl (k := 3) rfl rfl (by decide) rfl (fun ls hl => ?_)
      replace hl := lv_sub (l' := [(0, .ref (ad 0)), (1, .int z1), (2, .int z2), (3, .int (z3 + 1))]) hl [1, 2, 3, 0] rfl
      refine lv_goto (tgt := 2) C.1 C.2.1 dX12_layMeans_25 (by decide) ?_
      exact ih _ _ _ _ _ _ _ h hP hS hl
set_option maxHeartbeats 4000000 in
set_option maxRecDepth 100000 in
theorem wGX12_layMeans_0_103 {p : Program} {l : Launch} {e : Env} {s : State} {m : MethodId} {args : Array Value} {below : List Frame} {meth : Method} {c : Code} {D : va_G} {cy : Nat → ClassId} {ad st : Nat → Nat} (C : Cx RX12 cX12_layMeans 5 none wsX12_layMeans p s m args meth c) (hK : Kx D [(cy 0, .int), (cy 1, .long), (cy 2, .boolean), (cy 3, .byte), (cy 4, .object "HissHorn$Text")] st s) (hJ : JM ad) {r : Int32} {u' : SX} {k35 : Int32 → Int32 → Int32 → SX → Option (Int32 × SX)} (hk35 : ∀ (z1 : Int32) (z2 : Int32) (z3 : Int32) (u : SX) (H : Heap) (locs : List Loc) (ls : Array Slot), k35 z1 z2 z3 u = some (r, u') → va_P D vwCl (VM cy ad st u) H → va_S (Ax (AM ad) s.heap.size) s.heap H locs → lv_has ls 5 [(0, .ref (ad 0)), (1, .int z1), (2, .int z2), (3, .int z3)] → W p l e rmX12_layMeans_0 s m args below meth c H locs 0 0 (MQ below (Qv D (VM cy ad st) (AM ad) s.heap.size r u') args s 0 0 (Ax (AM ad) s.heap.size)) (F0 m 35 ls [])) (z1 : Int32) (z2 : Int32) (z3 : Int32) (u : SX) (H : Heap) (locs : List Loc) (ls : Array Slot) (h : GX12_layMeans_0_103 k35 z1 z2 z3 u = some (r, u')) (hP : va_P D vwCl (VM cy ad st u) H) (hS : va_S (Ax (AM ad) s.heap.size) s.heap H locs) (hl : lv_has ls 5 [(0, .ref (ad 0)), (1, .int z1), (2, .int z2), (3, .int z3)]) : W p l e rmX12_layMeans_0 s m args below meth c H locs 0 0 (MQ below (Qv D (VM cy ad st) (AM ad) s.heap.size r u') args s 0 0 (Ax (AM ad) s.heap.size)) (F0 m 103 ls []) := by
  unfold GX12_layMeans_0_103 at h
  refine lv_iinc (v := z3 + 1) (lv' := [(3, .int (z3 + 1)), (0, .ref (ad 0)), (1, .int z1), (2, .int z2)]) C.1 C.2.1 dX12_layMeans_103 hl (k := 3) rfl rfl (by decide) rfl (fun ls hl => ?_)
  replace hl := lv_sub (l' := [(0, .ref (ad 0)), (1, .int z1), (2, .int z2), (3, .int (z3 + 1))]) hl [1, 2, 3, 0] rfl
  refine lv_goto (tgt := 35) C.1 C.2.1 dX12_layMeans_106 (by decide) ?_
  exact hk35 _ _ _ _ _ _ _ h hP hS hl
set_option maxHeartbeats 4000000 in
set_option maxRecDepth 100000 in
theorem wLX12_layMeans_0_35 {p : Program} {l : Launch} {e : Env} {s : State} {m : MethodId} {args : Array Value} {below : List Frame} {meth : Method} {c : Code} {D : va_G} {cy : Nat → ClassId} {ad st : Nat → Nat} (C : Cx RX12 cX12_layMeans 5 none wsX12_layMeans p s m args meth c) (hK : Kx D [(cy 0, .int), (cy 1, .long), (cy 2, .boolean), (cy 3, .byte), (cy 4, .object "HissHorn$Text")] st s) (hJ : JM ad) {r : Int32} {u' : SX}   : ∀ (n : Nat) (z1 : Int32) (z2 : Int32) (z3 : Int32) (u : SX) (H : Heap) (locs : List Loc) (ls : Array Slot), LX12_layMeans_0_35  n z1 z2 z3 u = some (r, u') → va_P D vwCl (VM cy ad st u) H → va_S (Ax (AM ad) s.heap.size) s.heap H locs → lv_has ls 5 [(0, .ref (ad 0)), (1, .int z1), (2, .int z2), (3, .int z3)] → W p l e rmX12_layMeans_0 s m args below meth c H locs 0 0 (MQ below (Qv D (VM cy ad st) (AM ad) s.heap.size r u') args s 0 0 (Ax (AM ad) s.heap.size)) (F0 m 35 ls []) := by
  intro n
  induction n with
  | zero =>
    intro z1 z2 z3 u H locs ls h
    exact absurd h (by intro q; cases q)
  | succ n ih =>
    intro z1 z2 z3 u H locs ls h hP hS hl
    rw [LX12_layMeans_0_35] at h
    refine lv_iload_n C.1 C.2.1 dX12_layMeans_35 rfl (lv_at hl 3 rfl) ?_
    refine lv_aload_n C.1 C.2.1 dX12_layMeans_36 rfl (lv_at hl 0 rfl) ?_
    refine gM_0_readings C hX12_layMeans_0_X12 hK hP mX12_layMeans_0_3 dX12_layMeans_37 ?_
    refine lv_icmp_ge (tgt := 109) C.1 C.2.1 dX12_layMeans_40 (by decide) (fun c40 => ?_) (fun c40 => ?_)
    · rw [if_pos c40] at h
      cases h
      exact rt_v C hP hS dX12_layMeans_109
    · rw [if_neg c40] at h
      refine lv_aload_n C.1 C.2.1 dX12_layMeans_43 rfl (lv_at hl 0 rfl) ?_
      refine gM_0_readDay C hX12_layMeans_0_X12 hK hP mX12_layMeans_0_4 dX12_layMeans_44 ?_
      refine lv_iload_n C.1 C.2.1 dX12_layMeans_47 rfl (lv_at hl 3 rfl) ?_
      obtain ⟨hg10, h⟩ := gd_some h
      refine lM_21 C hK hP hg10 dX12_layMeans_48 ?_
      refine lv_iload_n C.1 C.2.1 dX12_layMeans_49 rfl (lv_at hl 1 rfl) ?_
      refine lv_icmp_le (tgt := 56) C.1 C.2.1 dX12_layMeans_50 (by decide) (fun c50 => ?_) (fun c50 => ?_)
      · rw [if_pos c50] at h
        refine lv_aload_n C.1 C.2.1 dX12_layMeans_56 rfl (lv_at hl 0 rfl) ?_
        refine lv_iload_n C.1 C.2.1 dX12_layMeans_57 rfl (lv_at hl 3 rfl) ?_
        refine lv_iload_n C.1 C.2.1 dX12_layMeans_58 rfl (lv_at hl 1 rfl) ?_
        obtain ⟨⟨r11, u12⟩, hc13, h⟩ := bd_some h
        try dsimp only at h
        refine cg_v (As := [.int z3, .int z1]) (rest := []) C hK hP hS (metX12_layLeft_0 l D cy ad st hJ _ z3 z1 hc13) (cwV 2 C.2.2.2.2.2.1 gX12_layMeans_X12_layLeft rfl rfl rfl (by decide +kernel) ⟨(Nat.le_of_ble_eq_true rfl), (Nat.le_of_ble_eq_true rfl)⟩) 0 12 rfl rfl rfl hl.1 rfl (Nat.le_of_ble_eq_true rfl) dX12_layMeans_59 ⟨Nat.zero_le _, Nat.zero_le _⟩ (fun H locs hP hS => ?_)
        refine lv_aload_n C.1 C.2.1 dX12_layMeans_62 rfl (lv_at hl 0 rfl) ?_
        refine lv_iload_n C.1 C.2.1 dX12_layMeans_63 rfl (lv_at hl 3 rfl) ?_
        refine lv_iload_n C.1 C.2.1 dX12_layMeans_64 rfl (lv_at hl 2 rfl) ?_
        obtain ⟨⟨r14, u15⟩, hc16, h⟩ := bd_some h
        try dsimp only at h
        refine cg_i (As := [.int z3, .int z2]) (rest := []) C hK hP hS (metX12_aimOf_0 l D cy ad st hJ _ z3 z2 hc16) (cwV 2 C.2.2.2.2.2.1 gX12_layMeans_X12_aimOf rfl rfl rfl (by decide +kernel) ⟨(Nat.le_of_ble_eq_true rfl), (Nat.le_of_ble_eq_true rfl)⟩) 0 12 rfl rfl rfl hl.1 rfl (Nat.le_of_ble_eq_true rfl) dX12_layMeans_65 ⟨Nat.zero_le _, Nat.zero_le _⟩ (fun H locs hP hS => ?_)
        refine lv_istore (lv' := [(4, .int r14), (0, .ref (ad 0)), (1, .int z1), (2, .int z2), (3, .int z3)]) C.1 C.2.1 dX12_layMeans_68 hl (by decide) rfl (fun ls hl => ?_)
        replace hl := lv_sub (l' := [(0, .ref (ad 0)), (1, .int z1), (2, .int z2), (3, .int z3), (4, .int r14)]) hl [1, 2, 3, 4, 0] rfl
        refine lv_aload_n C.1 C.2.1 dX12_layMeans_70 rfl (lv_at hl 0 rfl) ?_
        refine gM_0_sums C hX12_layMeans_0_X12 hK hP mX12_layMeans_0_1 dX12_layMeans_71 ?_
        refine lv_iload C.1 C.2.1 dX12_layMeans_74 (lv_at hl 4 rfl) ?_
        refine lv_dup2_11 C.1 C.2.1 dX12_layMeans_76 rfl rfl ?_
        obtain ⟨hg17, h⟩ := gd_some h
        refine lM_22 C hK hP hg17 dX12_layMeans_77 ?_
        refine lv_aload_n C.1 C.2.1 dX12_layMeans_78 rfl (lv_at hl 0 rfl) ?_
        refine gM_0_leftFrom C hX12_layMeans_0_X12 hK hP mX12_layMeans_0_5 dX12_layMeans_79 ?_
        refine lv_aload_n C.1 C.2.1 dX12_layMeans_82 rfl (lv_at hl 0 rfl) ?_
        refine gM_0_leftTo C hX12_layMeans_0_X12 hK hP mX12_layMeans_0_6 dX12_layMeans_83 ?_
        refine lv_iadd C.1 C.2.1 dX12_layMeans_86 ?_
        refine lv_iconst (v := 2) C.1 C.2.1 dX12_layMeans_87 (by decide) ?_
        obtain ⟨hg18, h⟩ := gd_some h
        refine lv_idiv C.1 C.2.1 dX12_layMeans_88 (nz_n hg18) ?_
        refine lv_i2l (v := (((u15.1 16) + (u15.1 17)) / 2).toInt64) C.1 C.2.1 dX12_layMeans_89 rfl ?_
        refine lv_ladd C.1 C.2.1 dX12_layMeans_90 ?_
        obtain ⟨hg19, h⟩ := gd_some h
        refine tM_22 C hK hP hJ hS hg19 dX12_layMeans_91 (fun H locs hP hS => ?_)
        obtain ⟨u20, hu21, h⟩ := lt_some h
        rw [← hu21] at hP
        refine lv_aload_n C.1 C.2.1 dX12_layMeans_92 rfl (lv_at hl 0 rfl) ?_
        refine gM_0_many C hX12_layMeans_0_X12 hK hP mX12_layMeans_0_2 dX12_layMeans_93 ?_
        refine lv_iload C.1 C.2.1 dX12_layMeans_96 (lv_at hl 4 rfl) ?_
        refine lv_dup2_11 C.1 C.2.1 dX12_layMeans_98 rfl rfl ?_
        obtain ⟨hg22, h⟩ := gd_some h
        refine lM_23 C hK hP hg22 dX12_layMeans_99 ?_
        refine lv_iconst (v := 1) C.1 C.2.1 dX12_layMeans_100 (by decide) ?_
        refine lv_iadd C.1 C.2.1 dX12_layMeans_101 ?_
        obtain ⟨hg23, h⟩ := gd_some h
        refine tM_23 C hK hP hJ hS hg23 dX12_layMeans_102 (fun H locs hP hS => ?_)
        obtain ⟨u24, hu25, h⟩ := lt_some h
        rw [← hu25] at hP
        exact wGX12_layMeans_0_103 C hK hJ ih _ _ _ _ _ _ _ h hP hS (lv_sub hl [0, 1, 2, 3] rfl)
      · rw [if_neg c50] at h
        refine lv_goto (tgt := 103) C.1 C.2.1 dX12_layMeans_53 (by decide) ?_
        exact wGX12_layMeans_0_103 C hK hJ ih _ _ _ _ _ _ _ h hP hS hl
set_option maxHeartbeats 4000000 in
set_option maxRecDepth 100000 in
theorem wGX12_layMeans_0_28 {p : Program} {l : Launch} {e : Env} {s : State} {m : MethodId} {args : Array Value} {below : List Frame} {meth : Method} {c : Code} {D : va_G} {cy : Nat → ClassId} {ad st : Nat → Nat} (C : Cx RX12 cX12_layMeans 5 none wsX12_layMeans p s m args meth c) (hK : Kx D [(cy 0, .int), (cy 1, .long), (cy 2, .boolean), (cy 3, .byte), (cy 4, .object "HissHorn$Text")] st s) (hJ : JM ad) {r : Int32} {u' : SX}   (z1 : Int32) (z2 : Int32) (u : SX) (H : Heap) (locs : List Loc) (ls : Array Slot) (h : GX12_layMeans_0_28 z1 z2 u = some (r, u')) (hP : va_P D vwCl (VM cy ad st u) H) (hS : va_S (Ax (AM ad) s.heap.size) s.heap H locs) (hl : lv_has ls 5 [(0, .ref (ad 0)), (1, .int z1), (2, .int z2)]) : W p l e rmX12_layMeans_0 s m args below meth c H locs 0 0 (MQ below (Qv D (VM cy ad st) (AM ad) s.heap.size r u') args s 0 0 (Ax (AM ad) s.heap.size)) (F0 m 28 ls []) := by
  unfold GX12_layMeans_0_28 at h
  refine lv_aload_n C.1 C.2.1 dX12_layMeans_28 rfl (lv_at hl 0 rfl) ?_
  refine lv_iload_n C.1 C.2.1 dX12_layMeans_29 rfl (lv_at hl 1 rfl) ?_
  obtain ⟨⟨r7, u8⟩, hc9, h⟩ := bd_some h
  try dsimp only at h
  refine cg_v (As := [.int z1]) (rest := []) C hK hP hS (metX12_laySpansOf_0 l D cy ad st hJ _ z1 hc9) (cwV 1 C.2.2.2.2.2.1 gX12_layMeans_X12_laySpansOf rfl rfl rfl (by decide +kernel) ⟨(Nat.le_of_ble_eq_true rfl), (Nat.le_of_ble_eq_true rfl)⟩) 0 12 rfl rfl rfl hl.1 rfl (Nat.le_of_ble_eq_true rfl) dX12_layMeans_30 ⟨Nat.zero_le _, Nat.zero_le _⟩ (fun H locs hP hS => ?_)
  refine lv_iconst (v := 0) C.1 C.2.1 dX12_layMeans_33 (by decide) ?_
  refine lv_istore_n (lv' := [(3, .int 0), (0, .ref (ad 0)), (1, .int z1), (2, .int z2)]) C.1 C.2.1 dX12_layMeans_34 rfl hl (by decide) rfl (fun ls hl => ?_)
  replace hl := lv_sub (l' := [(0, .ref (ad 0)), (1, .int z1), (2, .int z2), (3, .int 0)]) hl [1, 2, 3, 0] rfl
  exact wLX12_layMeans_0_35 C hK hJ  5000 _ _ _ _ _ _ _ h hP hS hl
set_option maxHeartbeats 4000000 in
set_option maxRecDepth 100000 in
theorem wX12_layMeans_0 {p : Program} {l : Launch} {e : Env} {s : State} {m : MethodId} {args : Array Value} {below : List Frame} {meth : Method} {c : Code} {D : va_G} {cy : Nat → ClassId} {ad st : Nat → Nat} (C : Cx RX12 cX12_layMeans 5 none wsX12_layMeans p s m args meth c) (hK : Kx D [(cy 0, .int), (cy 1, .long), (cy 2, .boolean), (cy 3, .byte), (cy 4, .object "HissHorn$Text")] st s) (hJ : JM ad) (x1 : Int32) (x2 : Int32) {u : SX} {r : Int32} {u' : SX} {H : Heap} {locs : List Loc} {ls : Array Slot} (h : fX12_layMeans_0 x1 x2 u = some (r, u')) (hP : va_P D vwCl (VM cy ad st u) H) (hS : va_S (Ax (AM ad) s.heap.size) s.heap H locs) (hl : lv_has ls 5 [(0, .ref (ad 0)), (1, .int x1), (2, .int x2)]) : W p l e rmX12_layMeans_0 s m args below meth c H locs 0 0 (MQ below (Qv D (VM cy ad st) (AM ad) s.heap.size r u') args s 0 0 (Ax (AM ad) s.heap.size)) (F0 m 0 ls []) := by
  unfold fX12_layMeans_0 at h
  refine lv_iconst (v := 0) C.1 C.2.1 dX12_layMeans_0 (by decide) ?_
  refine lv_istore_n (lv' := [(3, .int 0), (0, .ref (ad 0)), (1, .int x1), (2, .int x2)]) C.1 C.2.1 dX12_layMeans_1 rfl hl (by decide) rfl (fun ls hl => ?_)
  replace hl := lv_sub (l' := [(0, .ref (ad 0)), (1, .int x1), (2, .int x2), (3, .int 0)]) hl [1, 2, 3, 0] rfl
  exact wLX12_layMeans_0_2 C hK hJ (wGX12_layMeans_0_28 C hK hJ ) 5000 _ _ _ _ _ _ _ h hP hS hl
theorem metX12_layMeans_0 (l : Launch) (D : va_G) (cy : Nat → ClassId) (ad st : Nat → Nat) (hJ : JM ad) (sz : Nat) (x1 : Int32) (x2 : Int32) {u : SX} {r : Int32} {u' : SX} (h : fX12_layMeans_0 x1 x2 u = some (r, u')) : Met l yX12_layMeans wsX12_layMeans rmX12_layMeans_0 (va_Pc [.ref (ad 0), .int x1, .int x2] (Px D [(cy 0, .int), (cy 1, .long), (cy 2, .boolean), (cy 3, .byte), (cy 4, .object "HissHorn$Text")] st (VM cy ad st) sz u)) (Qv D (VM cy ad st) (AM ad) sz r u') 0 0 (Ax (AM ad) sz) := by
  refine Met.ofW (cc := cX12_layMeans) (maxL := 5) (ret := none) (by decide) rfl ?_
  intro p e s m args below meth c s₁ B hml hv
  obtain ⟨rfl, hsz, hP, hK⟩ := hv
  subst hsz
  have C : Cx RX12 cX12_layMeans 5 none wsX12_layMeans p s m _ meth c := ⟨B.exec, B.bytes, hml, B.returns, findClass_of_methodNamed B.named, atoms_spec (ws := wsX12_layMeans) B.pre, B.notSynchronized⟩
  have hl := lv_entry ([.ref (ad 0), .int x1, .int x2]) (n := 5) (Nat.le_of_ble_eq_true rfl)
  rw [lg_entry_eq]
  exact wX12_layMeans_0 C hK hJ x1 x2 h hP va_S.rf hl

theorem dX12_mean_0 : decode cX12_mean 0 = .ok (.aload_n 0, 1) := by decide +kernel
theorem dX12_mean_1 : decode cX12_mean 1 = .ok (.getfield 83, 3) := by decide +kernel
theorem dX12_mean_4 : decode cX12_mean 4 = .ok (.iload_n 1, 1) := by decide +kernel
theorem dX12_mean_5 : decode cX12_mean 5 = .ok (.laload, 1) := by decide +kernel
theorem dX12_mean_6 : decode cX12_mean 6 = .ok (.aload_n 0, 1) := by decide +kernel
theorem dX12_mean_7 : decode cX12_mean 7 = .ok (.getfield 87, 3) := by decide +kernel
theorem dX12_mean_10 : decode cX12_mean 10 = .ok (.iload_n 1, 1) := by decide +kernel
theorem dX12_mean_11 : decode cX12_mean 11 = .ok (.iaload, 1) := by decide +kernel
theorem dX12_mean_12 : decode cX12_mean 12 = .ok (.i2l, 1) := by decide +kernel
theorem dX12_mean_13 : decode cX12_mean 13 = .ok (.ldiv, 1) := by decide +kernel
theorem dX12_mean_14 : decode cX12_mean 14 = .ok (.l2i, 1) := by decide +kernel
theorem dX12_mean_15 : decode cX12_mean 15 = .ok (.ireturn, 1) := by decide +kernel
/-- HissHornModel.mean(I)I of cell 0 -/
def rmX12_mean_0 : Room := { frames := 0, cells := 0, slots := 0, locals := 0 }
theorem hX12_mean_0_X12 : ∀ w ∈ u_ws RX12 TX12 69, w ∈ wsX12_mean := fun w h => (List.mem_cons_of_mem _ (List.mem_append_right _ h))
theorem mX12_mean_0_1 : Cond.fieldLink RX12 83 "HissHornModel" "sums" "[J" ∈ wsX12_mean := (List.mem_cons_of_mem _ (List.mem_append_left _ (List.mem_of_getElem? (i := 0) rfl)))
theorem mX12_mean_0_2 : Cond.fieldLink RX12 87 "HissHornModel" "many" "[I" ∈ wsX12_mean := (List.mem_cons_of_mem _ (List.mem_append_left _ (List.mem_of_getElem? (i := 1) rfl)))
def fX12_mean_0 (x1 : Int32) (u : SX) : Option (Int32 × SX) := (gd (inb x1 41) (gd (inb x1 41) (gd (nzL ((u.2.1 23 x1.toNatClampNeg).toInt64)) (some (((u.2.2.2 22 x1.toNatClampNeg) / ((u.2.1 23 x1.toNatClampNeg).toInt64)).toInt32, u)))))
set_option maxHeartbeats 4000000 in
set_option maxRecDepth 100000 in
theorem wX12_mean_0 {p : Program} {l : Launch} {e : Env} {s : State} {m : MethodId} {args : Array Value} {below : List Frame} {meth : Method} {c : Code} {D : va_G} {cy : Nat → ClassId} {ad st : Nat → Nat} (C : Cx RX12 cX12_mean 2 (some .int) wsX12_mean p s m args meth c) (hK : Kx D [(cy 0, .int), (cy 1, .long), (cy 2, .boolean), (cy 3, .byte), (cy 4, .object "HissHorn$Text")] st s) (hJ : JM ad) (x1 : Int32) {u : SX} {r : Int32} {u' : SX} {H : Heap} {locs : List Loc} {ls : Array Slot} (h : fX12_mean_0 x1 u = some (r, u')) (hP : va_P D vwCl (VM cy ad st u) H) (hS : va_S (Ax (AM ad) s.heap.size) s.heap H locs) (hl : lv_has ls 2 [(0, .ref (ad 0)), (1, .int x1)]) : W p l e rmX12_mean_0 s m args below meth c H locs 0 0 (MQ below (Qi D (VM cy ad st) (AM ad) s.heap.size r u') args s 0 0 (Ax (AM ad) s.heap.size)) (F0 m 0 ls []) := by
  unfold fX12_mean_0 at h
  refine lv_aload_n C.1 C.2.1 dX12_mean_0 rfl (lv_at hl 0 rfl) ?_
  refine gM_0_sums C hX12_mean_0_X12 hK hP mX12_mean_0_1 dX12_mean_1 ?_
  refine lv_iload_n C.1 C.2.1 dX12_mean_4 rfl (lv_at hl 1 rfl) ?_
  obtain ⟨hg1, h⟩ := gd_some h
  refine lM_22 C hK hP hg1 dX12_mean_5 ?_
  refine lv_aload_n C.1 C.2.1 dX12_mean_6 rfl (lv_at hl 0 rfl) ?_
  refine gM_0_many C hX12_mean_0_X12 hK hP mX12_mean_0_2 dX12_mean_7 ?_
  refine lv_iload_n C.1 C.2.1 dX12_mean_10 rfl (lv_at hl 1 rfl) ?_
  obtain ⟨hg2, h⟩ := gd_some h
  refine lM_23 C hK hP hg2 dX12_mean_11 ?_
  refine lv_i2l (v := (u.2.1 23 x1.toNatClampNeg).toInt64) C.1 C.2.1 dX12_mean_12 rfl ?_
  obtain ⟨hg3, h⟩ := gd_some h
  refine lv_ldiv C.1 C.2.1 dX12_mean_13 (nzL_n hg3) ?_
  refine lv_l2i (v := ((u.2.2.2 22 x1.toNatClampNeg) / ((u.2.1 23 x1.toNatClampNeg).toInt64)).toInt32) C.1 C.2.1 dX12_mean_14 rfl ?_
  cases h
  exact rt_i C hP hS dX12_mean_15
theorem metX12_mean_0 (l : Launch) (D : va_G) (cy : Nat → ClassId) (ad st : Nat → Nat) (hJ : JM ad) (sz : Nat) (x1 : Int32) {u : SX} {r : Int32} {u' : SX} (h : fX12_mean_0 x1 u = some (r, u')) : Met l yX12_mean wsX12_mean rmX12_mean_0 (va_Pc [.ref (ad 0), .int x1] (Px D [(cy 0, .int), (cy 1, .long), (cy 2, .boolean), (cy 3, .byte), (cy 4, .object "HissHorn$Text")] st (VM cy ad st) sz u)) (Qi D (VM cy ad st) (AM ad) sz r u') 0 0 (Ax (AM ad) sz) := by
  refine Met.ofW (cc := cX12_mean) (maxL := 2) (ret := (some .int)) (by decide) rfl ?_
  intro p e s m args below meth c s₁ B hml hv
  obtain ⟨rfl, hsz, hP, hK⟩ := hv
  subst hsz
  have C : Cx RX12 cX12_mean 2 (some .int) wsX12_mean p s m _ meth c := ⟨B.exec, B.bytes, hml, B.returns, findClass_of_methodNamed B.named, atoms_spec (ws := wsX12_mean) B.pre, B.notSynchronized⟩
  have hl := lv_entry ([.ref (ad 0), .int x1]) (n := 2) (Nat.le_of_ble_eq_true rfl)
  rw [lg_entry_eq]
  exact wX12_mean_0 C hK hJ x1 h hP va_S.rf hl

theorem dX12_apart_48 : decode cX12_apart 48 = .ok (.iinc 3 1, 3) := by decide +kernel
theorem dX12_apart_51 : decode cX12_apart 51 = .ok (.goto (-41), 3) := by decide +kernel
theorem dX12_apart_10 : decode cX12_apart 10 = .ok (.iload_n 3, 1) := by decide +kernel
theorem dX12_apart_11 : decode cX12_apart 11 = .ok (.bipush 41, 2) := by decide +kernel
theorem dX12_apart_13 : decode cX12_apart 13 = .ok (.if_icmp .ge 41, 3) := by decide +kernel
theorem dX12_apart_54 : decode cX12_apart 54 = .ok (.iload_n 1, 1) := by decide +kernel
theorem dX12_apart_55 : decode cX12_apart 55 = .ok (.iload_n 2, 1) := by decide +kernel
theorem dX12_apart_56 : decode cX12_apart 56 = .ok (.isub, 1) := by decide +kernel
theorem dX12_apart_57 : decode cX12_apart 57 = .ok (.ireturn, 1) := by decide +kernel
theorem dX12_apart_16 : decode cX12_apart 16 = .ok (.aload_n 0, 1) := by decide +kernel
theorem dX12_apart_17 : decode cX12_apart 17 = .ok (.getfield 87, 3) := by decide +kernel
theorem dX12_apart_20 : decode cX12_apart 20 = .ok (.iload_n 3, 1) := by decide +kernel
theorem dX12_apart_21 : decode cX12_apart 21 = .ok (.iaload, 1) := by decide +kernel
theorem dX12_apart_22 : decode cX12_apart 22 = .ok (.ifCond .ne 6, 3) := by decide +kernel
theorem dX12_apart_28 : decode cX12_apart 28 = .ok (.iload_n 1, 1) := by decide +kernel
theorem dX12_apart_29 : decode cX12_apart 29 = .ok (.aload_n 0, 1) := by decide +kernel
theorem dX12_apart_30 : decode cX12_apart 30 = .ok (.iload_n 3, 1) := by decide +kernel
set_option maxRecDepth 20000 in
theorem ggX12_apart_X12_mean : GoodIn wsX12_apart wsX12_mean := goodIn_r _ [15, 16, 3, 17, 18, 19, 20, 21, 22, 23, 24, 25, 26, 27, 28, 29, 30, 31, 32, 33, 34, 35, 36, 37, 38, 39, 40, 41, 42, 43, 44, 45, 46, 47, 48, 49, 50, 51, 52, 53, 54, 55, 56, 57, 58, 59, 60, 61, 62, 63, 64, 65, 66, 67, 68, 69, 70, 71, 72, 73, 74, 75, 76, 77, 78, 79, 80, 81, 82, 83, 84, 85] (by decide +kernel) (by decide +kernel)
set_option maxRecDepth 20000 in
theorem gX12_apart_X12_mean : GoodIn wsX12_apart (wsV RX12 378 RX12 yX12_mean wsX12_mean) := goodIn_app (goodIn_of _ (by decide +kernel)) ggX12_apart_X12_mean
theorem dX12_apart_31 : decode cX12_apart 31 = .ok (.invokevirtual 378, 3) := by decide +kernel
theorem dX12_apart_34 : decode cX12_apart 34 = .ok (.invokestatic 293, 3) := by decide +kernel
theorem dX12_apart_37 : decode cX12_apart 37 = .ok (.istore_n 1, 1) := by decide +kernel
theorem dX12_apart_38 : decode cX12_apart 38 = .ok (.iload_n 2, 1) := by decide +kernel
theorem dX12_apart_39 : decode cX12_apart 39 = .ok (.aload_n 0, 1) := by decide +kernel
theorem dX12_apart_40 : decode cX12_apart 40 = .ok (.iload_n 3, 1) := by decide +kernel
theorem dX12_apart_41 : decode cX12_apart 41 = .ok (.invokevirtual 378, 3) := by decide +kernel
theorem dX12_apart_44 : decode cX12_apart 44 = .ok (.invokestatic 295, 3) := by decide +kernel
theorem dX12_apart_47 : decode cX12_apart 47 = .ok (.istore_n 2, 1) := by decide +kernel
theorem dX12_apart_25 : decode cX12_apart 25 = .ok (.goto 23, 3) := by decide +kernel
theorem dX12_apart_0 : decode cX12_apart 0 = .ok (.ldc_w 330, 3) := by decide +kernel
theorem dX12_apart_3 : decode cX12_apart 3 = .ok (.istore_n 1, 1) := by decide +kernel
theorem dX12_apart_4 : decode cX12_apart 4 = .ok (.ldc_w 377, 3) := by decide +kernel
theorem dX12_apart_7 : decode cX12_apart 7 = .ok (.istore_n 2, 1) := by decide +kernel
theorem dX12_apart_8 : decode cX12_apart 8 = .ok (.iconst 0, 1) := by decide +kernel
theorem dX12_apart_9 : decode cX12_apart 9 = .ok (.istore_n 3, 1) := by decide +kernel
/-- HissHornModel.apart()I of cell 0 -/
def rmX12_apart_0 : Room := { frames := 1, cells := 0, slots := 0, locals := 21 }
theorem mX12_apart_0_0 : Cond.constant RX12 330 (-100000000) ∈ wsX12_apart := (List.mem_cons_of_mem _ (List.mem_append_left _ (List.mem_of_getElem? (i := 0) rfl)))
theorem mX12_apart_0_1 : Cond.constant RX12 377 (100000000) ∈ wsX12_apart := (List.mem_cons_of_mem _ (List.mem_append_left _ (List.mem_of_getElem? (i := 1) rfl)))
theorem hX12_apart_0_X12 : ∀ w ∈ u_ws RX12 TX12 69, w ∈ wsX12_apart := fun w h => (List.mem_cons_of_mem _ (List.mem_append_right _ h))
theorem mX12_apart_0_3 : Cond.fieldLink RX12 87 "HissHornModel" "many" "[I" ∈ wsX12_apart := (List.mem_cons_of_mem _ (List.mem_append_left _ (List.mem_of_getElem? (i := 2) rfl)))
theorem mX12_apart_0_4 : Cond.methodLink RX12 293 Lib.Math.max.name ∈ wsX12_apart := (List.mem_cons_of_mem _ (List.mem_append_left _ (List.mem_of_getElem? (i := 3) rfl)))
theorem mX12_apart_0_5 : Cond.static Lib.Math.max.name ∈ wsX12_apart := (List.mem_cons_of_mem _ (List.mem_append_left _ (List.mem_of_getElem? (i := 4) rfl)))
theorem mX12_apart_0_6 : Cond.initialized "java/lang/Math" ∈ wsX12_apart := (List.mem_cons_of_mem _ (List.mem_append_left _ (List.mem_of_getElem? (i := 5) rfl)))
theorem mX12_apart_0_7 : Cond.code Lib.Math.max.name Lib.Math.max.code 2 (some .int) ∈ wsX12_apart := (List.mem_cons_of_mem _ (List.mem_append_left _ (List.mem_of_getElem? (i := 6) rfl)))
theorem mX12_apart_0_8 : Cond.methodLink RX12 295 Lib.Math.min.name ∈ wsX12_apart := (List.mem_cons_of_mem _ (List.mem_append_left _ (List.mem_of_getElem? (i := 7) rfl)))
theorem mX12_apart_0_9 : Cond.static Lib.Math.min.name ∈ wsX12_apart := (List.mem_cons_of_mem _ (List.mem_append_left _ (List.mem_of_getElem? (i := 8) rfl)))
theorem mX12_apart_0_10 : Cond.code Lib.Math.min.name Lib.Math.min.code 2 (some .int) ∈ wsX12_apart := (List.mem_cons_of_mem _ (List.mem_append_left _ (List.mem_of_getElem? (i := 9) rfl)))
def GX12_apart_0_48 (k10 : Int32 → Int32 → Int32 → SX → Option (Int32 × SX)) (z1 : Int32) (z2 : Int32) (z3 : Int32) (u : SX) : Option (Int32 × SX) := (k10 z1 z2 (z3 + 1) u)
def LX12_apart_0_10  : Nat → Int32 → Int32 → Int32 → SX → Option (Int32 × SX)
  | 0, _, _, _, _ => none
  | n + 1, z1, z2, z3, u => (if 41 ≤ z3 then (some (z1 - z2, u)) else (gd (inb z3 41) (if (u.2.1 23 z3.toNatClampNeg) = 0 then (GX12_apart_0_48 (LX12_apart_0_10 n) z1 z2 z3 u) else ((fX12_mean_0 z3 u).bind fun q => match q with | (r2, u3) => (lt (if z1 < r2 then r2 else z1) fun v5 => ((fX12_mean_0 z3 u3).bind fun q => match q with | (r7, u8) => (lt (if r7 < z2 then r7 else z2) fun v10 => (GX12_apart_0_48 (LX12_apart_0_10 n) v5 v10 z3 u8))))))))
def fX12_apart_0  (u : SX) : Option (Int32 × SX) := (LX12_apart_0_10  5000 (-100000000) 100000000 0 u)
set_option maxHeartbeats 4000000 in
set_option maxRecDepth 100000 in
theorem wGX12_apart_0_48 {p : Program} {l : Launch} {e : Env} {s : State} {m : MethodId} {args : Array Value} {below : List Frame} {meth : Method} {c : Code} {D : va_G} {cy : Nat → ClassId} {ad st : Nat → Nat} (C : Cx RX12 cX12_apart 4 (some .int) wsX12_apart p s m args meth c) (hK : Kx D [(cy 0, .int), (cy 1, .long), (cy 2, .boolean), (cy 3, .byte), (cy 4, .object "HissHorn$Text")] st s) (hJ : JM ad) {r : Int32} {u' : SX} {k10 : Int32 → Int32 → Int32 → SX → Option (Int32 × SX)} (hk10 : ∀ (z1 : Int32) (z2 : Int32) (z3 : Int32) (u : SX) (H : Heap) (locs : List Loc) (ls : Array Slot), k10 z1 z2 z3 u = some (r, u') → va_P D vwCl (VM cy ad st u) H → va_S (Ax (AM ad) s.heap.size) s.heap H locs → lv_has ls 4 [(0, .ref (ad 0)), (1, .int z1), (2, .int z2), (3, .int z3)] → W p l e rmX12_apart_0 s m args below meth c H locs 0 0 (MQ below (Qi D (VM cy ad st) (AM ad) s.heap.size r u') args s 0 0 (Ax (AM ad) s.heap.size)) (F0 m 10 ls [])) (z1 : Int32) (z2 : Int32) (z3 : Int32) (u : SX) (H : Heap) (locs : List Loc) (ls : Array Slot) (h : GX12_apart_0_48 k10 z1 z2 z3 u = some (r, u')) (hP : va_P D vwCl (VM cy ad st u) H) (hS : va_S (Ax (AM ad) s.heap.size) s.heap H locs) (hl : lv_has ls 4 [(0, .ref (ad 0)), (1, .int z1), (2, .int z2), (3, .int z3)]) : W p l e rmX12_apart_0 s m args below meth c H locs 0 0 (MQ below (Qi D (VM cy ad st) (AM ad) s.heap.size r u') args s 0 0 (Ax (AM ad) s.heap.size)) (F0 m 48 ls []) := by
  unfold GX12_apart_0_48 at h
  refine lv_iinc (v := z3 + 1) (lv' := [(3, .int (z3 + 1)), (0, .ref (ad 0)), (1, .int z1), (2, .int z2)]) C.1 C.2.1 dX12_apart_48 hl (k := 3) rfl rfl (by decide) rfl (fun ls hl => ?_)
  replace hl := lv_sub (l' := [(0, .ref (ad 0)), (1, .int z1), (2, .int z2), (3, .int (z3 + 1))]) hl [1, 2, 3, 0] rfl
  refine lv_goto (tgt := 10) C.1 C.2.1 dX12_apart_51 (by decide) ?_
  exact hk10 _ _ _ _ _ _ _ h hP hS hl
set_option maxHeartbeats 4000000 in
set_option maxRecDepth 100000 in
theorem wLX12_apart_0_10 {p : Program} {l : Launch} {e : Env} {s : State} {m : MethodId} {args : Array Value} {below : List Frame} {meth : Method} {c : Code} {D : va_G} {cy : Nat → ClassId} {ad st : Nat → Nat} (C : Cx RX12 cX12_apart 4 (some .int) wsX12_apart p s m args meth c) (hK : Kx D [(cy 0, .int), (cy 1, .long), (cy 2, .boolean), (cy 3, .byte), (cy 4, .object "HissHorn$Text")] st s) (hJ : JM ad) {r : Int32} {u' : SX}   : ∀ (n : Nat) (z1 : Int32) (z2 : Int32) (z3 : Int32) (u : SX) (H : Heap) (locs : List Loc) (ls : Array Slot), LX12_apart_0_10  n z1 z2 z3 u = some (r, u') → va_P D vwCl (VM cy ad st u) H → va_S (Ax (AM ad) s.heap.size) s.heap H locs → lv_has ls 4 [(0, .ref (ad 0)), (1, .int z1), (2, .int z2), (3, .int z3)] → W p l e rmX12_apart_0 s m args below meth c H locs 0 0 (MQ below (Qi D (VM cy ad st) (AM ad) s.heap.size r u') args s 0 0 (Ax (AM ad) s.heap.size)) (F0 m 10 ls []) := by
  intro n
  induction n with
  | zero =>
    intro z1 z2 z3 u H locs ls h
    exact absurd h (by intro q; cases q)
  | succ n ih =>
    intro z1 z2 z3 u H locs ls h hP hS hl
    rw [LX12_apart_0_10] at h
    refine lv_iload_n C.1 C.2.1 dX12_apart_10 rfl (lv_at hl 3 rfl) ?_
    refine lv_bipush (v := 41) C.1 C.2.1 dX12_apart_11 (by decide) ?_
    refine lv_icmp_ge (tgt := 54) C.1 C.2.1 dX12_apart_13 (by decide) (fun c13 => ?_) (fun c13 => ?_)
    · rw [if_pos c13] at h
      refine lv_iload_n C.1 C.2.1 dX12_apart_54 rfl (lv_at hl 1 rfl) ?_
      refine lv_iload_n C.1 C.2.1 dX12_apart_55 rfl (lv_at hl 2 rfl) ?_
      refine lv_isub C.1 C.2.1 dX12_apart_56 ?_
      cases h
      exact rt_i C hP hS dX12_apart_57
    · rw [if_neg c13] at h
      refine lv_aload_n C.1 C.2.1 dX12_apart_16 rfl (lv_at hl 0 rfl) ?_
      refine gM_0_many C hX12_apart_0_X12 hK hP mX12_apart_0_3 dX12_apart_17 ?_
      refine lv_iload_n C.1 C.2.1 dX12_apart_20 rfl (lv_at hl 3 rfl) ?_
      obtain ⟨hg1, h⟩ := gd_some h
      refine lM_23 C hK hP hg1 dX12_apart_21 ?_
      refine lv_if_ne (tgt := 28) C.1 C.2.1 dX12_apart_22 (by decide) (fun c22 => ?_) (fun c22 => ?_)
      · rw [if_neg c22] at h
        refine lv_iload_n C.1 C.2.1 dX12_apart_28 rfl (lv_at hl 1 rfl) ?_
        refine lv_aload_n C.1 C.2.1 dX12_apart_29 rfl (lv_at hl 0 rfl) ?_
        refine lv_iload_n C.1 C.2.1 dX12_apart_30 rfl (lv_at hl 3 rfl) ?_
        obtain ⟨⟨r2, u3⟩, hc4, h⟩ := bd_some h
        try dsimp only at h
        refine cg_i (As := [.int z3]) (rest := [.int z1]) C hK hP hS (metX12_mean_0 l D cy ad st hJ _ z3 hc4) (cwV 1 C.2.2.2.2.2.1 gX12_apart_X12_mean rfl rfl rfl (by decide +kernel) ⟨(Nat.le_of_ble_eq_true rfl), (Nat.le_of_ble_eq_true rfl)⟩) 0 12 rfl rfl rfl hl.1 rfl (Nat.le_of_ble_eq_true rfl) dX12_apart_31 ⟨Nat.zero_le _, Nat.zero_le _⟩ (fun H locs hP hS => ?_)
        refine va_mmax C.1 C.2.1 (C.2.2.1.trans hl.1.symm) C.2.2.2.2.1 (C.2.2.2.2.2.1 _ mX12_apart_0_4) (C.2.2.2.2.2.1 _ mX12_apart_0_5) (C.2.2.2.2.2.1 _ mX12_apart_0_6) (C.2.2.2.2.2.1 _ mX12_apart_0_7) (Nat.le_of_ble_eq_true rfl) (Nat.le_of_ble_eq_true rfl) (Nat.zero_le _) (Nat.zero_le _) dX12_apart_34 ?_
        refine lv_topi (fun v5 hv6 => ?_)
        replace h := lt_e hv6 h
        try dsimp only at h
        refine lv_istore_n (lv' := [(1, .int v5), (0, .ref (ad 0)), (2, .int z2), (3, .int z3)]) C.1 C.2.1 dX12_apart_37 rfl hl (by decide) rfl (fun ls hl => ?_)
        replace hl := lv_sub (l' := [(0, .ref (ad 0)), (1, .int v5), (2, .int z2), (3, .int z3)]) hl [1, 0, 2, 3] rfl
        refine lv_iload_n C.1 C.2.1 dX12_apart_38 rfl (lv_at hl 2 rfl) ?_
        refine lv_aload_n C.1 C.2.1 dX12_apart_39 rfl (lv_at hl 0 rfl) ?_
        refine lv_iload_n C.1 C.2.1 dX12_apart_40 rfl (lv_at hl 3 rfl) ?_
        obtain ⟨⟨r7, u8⟩, hc9, h⟩ := bd_some h
        try dsimp only at h
        refine cg_i (As := [.int z3]) (rest := [.int z2]) C hK hP hS (metX12_mean_0 l D cy ad st hJ _ z3 hc9) (cwV 1 C.2.2.2.2.2.1 gX12_apart_X12_mean rfl rfl rfl (by decide +kernel) ⟨(Nat.le_of_ble_eq_true rfl), (Nat.le_of_ble_eq_true rfl)⟩) 0 12 rfl rfl rfl hl.1 rfl (Nat.le_of_ble_eq_true rfl) dX12_apart_41 ⟨Nat.zero_le _, Nat.zero_le _⟩ (fun H locs hP hS => ?_)
        refine va_mmin C.1 C.2.1 (C.2.2.1.trans hl.1.symm) C.2.2.2.2.1 (C.2.2.2.2.2.1 _ mX12_apart_0_8) (C.2.2.2.2.2.1 _ mX12_apart_0_9) (C.2.2.2.2.2.1 _ mX12_apart_0_6) (C.2.2.2.2.2.1 _ mX12_apart_0_10) (Nat.le_of_ble_eq_true rfl) (Nat.le_of_ble_eq_true rfl) (Nat.zero_le _) (Nat.zero_le _) dX12_apart_44 ?_
        refine lv_topi (fun v10 hv11 => ?_)
        replace h := lt_e hv11 h
        try dsimp only at h
        refine lv_istore_n (lv' := [(2, .int v10), (0, .ref (ad 0)), (1, .int v5), (3, .int z3)]) C.1 C.2.1 dX12_apart_47 rfl hl (by decide) rfl (fun ls hl => ?_)
        replace hl := lv_sub (l' := [(0, .ref (ad 0)), (1, .int v5), (2, .int v10), (3, .int z3)]) hl [1, 2, 0, 3] rfl
        exact wGX12_apart_0_48 C hK hJ ih _ _ _ _ _ _ _ h hP hS hl
      · rw [if_pos c22] at h
        refine lv_goto (tgt := 48) C.1 C.2.1 dX12_apart_25 (by decide) ?_
        exact wGX12_apart_0_48 C hK hJ ih _ _ _ _ _ _ _ h hP hS hl
set_option maxHeartbeats 4000000 in
set_option maxRecDepth 100000 in
theorem wX12_apart_0 {p : Program} {l : Launch} {e : Env} {s : State} {m : MethodId} {args : Array Value} {below : List Frame} {meth : Method} {c : Code} {D : va_G} {cy : Nat → ClassId} {ad st : Nat → Nat} (C : Cx RX12 cX12_apart 4 (some .int) wsX12_apart p s m args meth c) (hK : Kx D [(cy 0, .int), (cy 1, .long), (cy 2, .boolean), (cy 3, .byte), (cy 4, .object "HissHorn$Text")] st s) (hJ : JM ad)  {u : SX} {r : Int32} {u' : SX} {H : Heap} {locs : List Loc} {ls : Array Slot} (h : fX12_apart_0  u = some (r, u')) (hP : va_P D vwCl (VM cy ad st u) H) (hS : va_S (Ax (AM ad) s.heap.size) s.heap H locs) (hl : lv_has ls 4 [(0, .ref (ad 0))]) : W p l e rmX12_apart_0 s m args below meth c H locs 0 0 (MQ below (Qi D (VM cy ad st) (AM ad) s.heap.size r u') args s 0 0 (Ax (AM ad) s.heap.size)) (F0 m 0 ls []) := by
  unfold fX12_apart_0 at h
  refine lv_ldcw C.1 C.2.1 C.2.2.2.2.1 (C.2.2.2.2.2.1 _ mX12_apart_0_0) dX12_apart_0 ?_
  refine lv_istore_n (lv' := [(1, .int (-100000000)), (0, .ref (ad 0))]) C.1 C.2.1 dX12_apart_3 rfl hl (by decide) rfl (fun ls hl => ?_)
  replace hl := lv_sub (l' := [(0, .ref (ad 0)), (1, .int (-100000000))]) hl [1, 0] rfl
  refine lv_ldcw C.1 C.2.1 C.2.2.2.2.1 (C.2.2.2.2.2.1 _ mX12_apart_0_1) dX12_apart_4 ?_
  refine lv_istore_n (lv' := [(2, .int 100000000), (0, .ref (ad 0)), (1, .int (-100000000))]) C.1 C.2.1 dX12_apart_7 rfl hl (by decide) rfl (fun ls hl => ?_)
  replace hl := lv_sub (l' := [(0, .ref (ad 0)), (1, .int (-100000000)), (2, .int 100000000)]) hl [1, 2, 0] rfl
  refine lv_iconst (v := 0) C.1 C.2.1 dX12_apart_8 (by decide) ?_
  refine lv_istore_n (lv' := [(3, .int 0), (0, .ref (ad 0)), (1, .int (-100000000)), (2, .int 100000000)]) C.1 C.2.1 dX12_apart_9 rfl hl (by decide) rfl (fun ls hl => ?_)
  replace hl := lv_sub (l' := [(0, .ref (ad 0)), (1, .int (-100000000)), (2, .int 100000000), (3, .int 0)]) hl [1, 2, 3, 0] rfl
  exact wLX12_apart_0_10 C hK hJ  5000 _ _ _ _ _ _ _ h hP hS hl
theorem metX12_apart_0 (l : Launch) (D : va_G) (cy : Nat → ClassId) (ad st : Nat → Nat) (hJ : JM ad) (sz : Nat)  {u : SX} {r : Int32} {u' : SX} (h : fX12_apart_0  u = some (r, u')) : Met l yX12_apart wsX12_apart rmX12_apart_0 (va_Pc [.ref (ad 0)] (Px D [(cy 0, .int), (cy 1, .long), (cy 2, .boolean), (cy 3, .byte), (cy 4, .object "HissHorn$Text")] st (VM cy ad st) sz u)) (Qi D (VM cy ad st) (AM ad) sz r u') 0 0 (Ax (AM ad) sz) := by
  refine Met.ofW (cc := cX12_apart) (maxL := 4) (ret := (some .int)) (by decide) rfl ?_
  intro p e s m args below meth c s₁ B hml hv
  obtain ⟨rfl, hsz, hP, hK⟩ := hv
  subst hsz
  have C : Cx RX12 cX12_apart 4 (some .int) wsX12_apart p s m _ meth c := ⟨B.exec, B.bytes, hml, B.returns, findClass_of_methodNamed B.named, atoms_spec (ws := wsX12_apart) B.pre, B.notSynchronized⟩
  have hl := lv_entry ([.ref (ad 0)]) (n := 4) (Nat.le_of_ble_eq_true rfl)
  rw [lg_entry_eq]
  exact wX12_apart_0 C hK hJ h hP va_S.rf hl

theorem dX12_goes_0 : decode cX12_goes 0 = .ok (.aload_n 0, 1) := by decide +kernel
theorem dX12_goes_1 : decode cX12_goes 1 = .ok (.iconst 0, 1) := by decide +kernel
theorem dX12_goes_2 : decode cX12_goes 2 = .ok (.putfield 151, 3) := by decide +kernel
theorem dX12_goes_5 : decode cX12_goes 5 = .ok (.iload_n 1, 1) := by decide +kernel
theorem dX12_goes_6 : decode cX12_goes 6 = .ok (.iconst 0, 1) := by decide +kernel
theorem dX12_goes_7 : decode cX12_goes 7 = .ok (.aload_n 0, 1) := by decide +kernel
theorem dX12_goes_8 : decode cX12_goes 8 = .ok (.getfield 159, 3) := by decide +kernel
set_option maxRecDepth 20000 in
theorem ggX12_goes_X12_isIn : GoodIn wsX12_goes wsX12_isIn := goodIn_r _ [8] (by decide +kernel) (by decide +kernel)
set_option maxRecDepth 20000 in
theorem gX12_goes_X12_isIn : GoodIn wsX12_goes (va_wsS RX12 155 yX12_isIn wsX12_isIn) := goodIn_app (goodIn_of _ (by decide +kernel)) ggX12_goes_X12_isIn
theorem dX12_goes_11 : decode cX12_goes 11 = .ok (.invokestatic 155, 3) := by decide +kernel
theorem dX12_goes_14 : decode cX12_goes 14 = .ok (.ifCond .eq 12, 3) := by decide +kernel
theorem dX12_goes_26 : decode cX12_goes 26 = .ok (.ldc_w 330, 3) := by decide +kernel
theorem dX12_goes_29 : decode cX12_goes 29 = .ok (.ireturn, 1) := by decide +kernel
theorem dX12_goes_17 : decode cX12_goes 17 = .ok (.iload_n 2, 1) := by decide +kernel
theorem dX12_goes_18 : decode cX12_goes 18 = .ok (.iconst 0, 1) := by decide +kernel
theorem dX12_goes_19 : decode cX12_goes 19 = .ok (.iconst 5, 1) := by decide +kernel
theorem dX12_goes_20 : decode cX12_goes 20 = .ok (.invokestatic 155, 3) := by decide +kernel
theorem dX12_goes_23 : decode cX12_goes 23 = .ok (.ifCond .ne 7, 3) := by decide +kernel
theorem dX12_goes_30 : decode cX12_goes 30 = .ok (.aload_n 0, 1) := by decide +kernel
theorem dX12_goes_31 : decode cX12_goes 31 = .ok (.iload_n 1, 1) := by decide +kernel
set_option maxRecDepth 20000 in
theorem ggX12_goes_X12_layAlike : GoodIn wsX12_goes wsX12_layAlike := goodIn_r _ [12, 4, 13, 14, 15, 16, 17, 18, 19, 20, 21, 22, 23, 24, 25, 26, 27, 28, 7, 29, 30, 31, 32, 33, 34, 35, 36, 37, 38, 39, 40, 41, 42, 43, 44, 45, 46, 47, 48, 49, 50, 51, 52, 53, 54, 55, 56, 57, 58, 59, 60, 61, 62, 63, 64, 65, 66, 67, 68, 69, 70, 71, 72, 73, 74, 75, 76, 77, 78, 79, 80, 81, 82, 83, 84, 85, 86, 87, 88, 89, 90, 91, 92, 93, 94, 95, 96, 97, 98, 99, 100, 101, 102, 103, 104, 105, 106, 107, 108, 109, 110, 111, 112, 113, 114, 115, 116, 117, 118, 119, 120, 121, 122, 123, 124, 125, 126, 127, 128, 129, 130, 131, 132, 133, 134, 135, 136, 137, 138, 139, 140, 141, 142, 143, 144, 145, 146, 147, 148, 149, 150, 151, 152, 153, 154, 155, 156, 157, 158, 159, 160, 161, 162, 163, 164, 165, 166, 167, 168, 169, 170, 171, 172, 173, 174, 175, 176, 177, 178, 179, 180, 181, 182, 183, 184, 185, 186, 187, 188, 189, 190, 191, 192, 193, 194, 195, 196, 197, 198, 199, 200, 201, 202, 203, 204, 205, 206, 207, 208, 209, 210, 211, 212, 213, 214, 215, 216, 217, 218, 219, 220, 221, 222, 223, 224, 225, 226, 227, 228, 229, 230, 231, 232, 233, 234, 235, 236, 237, 238, 239, 240, 241, 242, 243, 244, 245, 246, 247, 248, 249, 250, 251, 252, 253, 254, 255, 256, 257, 258, 259, 260, 261, 277, 278, 279, 280, 281, 282, 283, 284, 285, 286, 287, 288, 289, 290, 291, 292, 293, 294, 295, 296, 297, 298, 299, 300, 301, 302, 303, 304, 305, 306, 307, 308, 309, 310, 311, 312, 313, 314, 315, 316, 317, 318, 319, 320, 321, 322, 323, 324, 325, 326, 327, 328, 329, 330, 331, 332, 333, 334, 335, 336, 337, 338, 339, 340, 341, 342, 343, 344, 345] (by decide +kernel) (by decide +kernel)
set_option maxRecDepth 20000 in
theorem gX12_goes_X12_layAlike : GoodIn wsX12_goes (wsV RX12 374 RX12 yX12_layAlike wsX12_layAlike) := goodIn_app (goodIn_of _ (by decide +kernel)) ggX12_goes_X12_layAlike
theorem dX12_goes_32 : decode cX12_goes 32 = .ok (.invokevirtual 374, 3) := by decide +kernel
theorem dX12_goes_35 : decode cX12_goes 35 = .ok (.aload_n 0, 1) := by decide +kernel
theorem dX12_goes_36 : decode cX12_goes 36 = .ok (.getfield 365, 3) := by decide +kernel
theorem dX12_goes_39 : decode cX12_goes 39 = .ok (.ifCond .ne 7, 3) := by decide +kernel
theorem dX12_goes_46 : decode cX12_goes 46 = .ok (.aload_n 0, 1) := by decide +kernel
theorem dX12_goes_47 : decode cX12_goes 47 = .ok (.iload_n 1, 1) := by decide +kernel
theorem dX12_goes_48 : decode cX12_goes 48 = .ok (.iload_n 2, 1) := by decide +kernel
set_option maxRecDepth 20000 in
theorem ggX12_goes_X12_layMeans : GoodIn wsX12_goes wsX12_layMeans := goodIn_r _ [265, 266, 267, 13, 14, 15, 21, 26, 27, 28, 7, 29, 30, 31, 32, 33, 34, 35, 36, 37, 38, 39, 40, 41, 42, 43, 44, 45, 46, 47, 48, 17, 18, 19, 20, 23, 24, 25, 49, 50, 51, 52, 53, 54, 55, 56, 57, 58, 59, 60, 61, 62, 63, 64, 65, 66, 67, 68, 69, 70, 71, 72, 73, 74, 75, 76, 77, 78, 79, 80, 81, 82, 83, 84, 85, 86, 87, 88, 89, 90, 91, 92, 93, 94, 95, 96, 97, 98, 99, 100, 101, 102, 103, 104, 105, 106, 107, 108, 109, 110, 111, 112, 113, 114, 115, 116, 117, 118, 119, 120, 121, 122, 123, 124, 125, 126, 127, 128, 129, 130, 131, 132, 133, 134, 135, 136, 137, 138, 139, 140, 141, 142, 143, 144, 145, 146, 147, 148, 149, 150, 151, 152, 153, 154, 155, 156, 157, 158, 159, 160, 161, 162, 163, 164, 165, 166, 167, 168, 169, 170, 171, 172, 173, 174, 175, 176, 177, 178, 179, 180, 181, 182, 183, 184, 185, 186, 187, 188, 189, 190, 191, 192, 193, 194, 195, 196, 197, 198, 199, 200, 201, 202, 203, 204, 205, 206, 207, 208, 209, 210, 211, 212, 213, 214, 215, 216, 217, 218, 219, 220, 221, 222, 223, 224, 225, 226, 227, 228, 229, 230, 231, 232, 233, 234, 235, 236, 237, 238, 239, 240, 241, 242, 243, 244, 245, 246, 247, 248, 249, 250, 251, 252, 253, 254, 255, 256, 257, 258, 259, 260, 261, 277, 278, 279, 280, 281, 282, 283, 284, 285, 286, 287, 288, 289, 290, 291, 292, 293, 294, 295, 296, 297, 298, 299, 300, 301, 302, 303, 304, 305, 306, 307, 308, 309, 310, 311, 312, 313, 314, 315, 316, 317, 318, 319, 320, 321, 322, 323, 324, 325, 326, 327, 328, 329, 330, 331, 332, 333, 334, 335, 336, 337, 338, 339, 340, 341, 342, 343, 344, 345] (by decide +kernel) (by decide +kernel)
set_option maxRecDepth 20000 in
theorem gX12_goes_X12_layMeans : GoodIn wsX12_goes (wsV RX12 381 RX12 yX12_layMeans wsX12_layMeans) := goodIn_app (goodIn_of _ (by decide +kernel)) ggX12_goes_X12_layMeans
theorem dX12_goes_49 : decode cX12_goes 49 = .ok (.invokevirtual 381, 3) := by decide +kernel
theorem dX12_goes_52 : decode cX12_goes 52 = .ok (.aload_n 0, 1) := by decide +kernel
set_option maxRecDepth 20000 in
theorem ggX12_goes_X12_apart : GoodIn wsX12_goes wsX12_apart := goodIn_r _ [271, 3, 272, 267, 17, 18, 19, 20, 23, 24, 25, 273, 274, 275, 7, 276, 266, 277, 278, 279, 280, 281, 282, 283, 284, 285, 286, 287, 288, 289, 290, 291, 292, 293, 294, 295, 296, 297, 298, 299, 300, 301, 302, 303, 304, 305, 306, 307, 308, 309, 310, 311, 312, 313, 314, 315, 316, 317, 318, 319, 320, 321, 322, 323, 324, 325, 326, 327, 328, 329, 330, 331, 332, 333, 334, 335, 336, 337, 338, 339, 340, 341, 342, 343, 344, 345] (by decide +kernel) (by decide +kernel)
set_option maxRecDepth 20000 in
theorem gX12_goes_X12_apart : GoodIn wsX12_goes (wsV RX12 384 RX12 yX12_apart wsX12_apart) := goodIn_app (goodIn_of _ (by decide +kernel)) ggX12_goes_X12_apart
theorem dX12_goes_53 : decode cX12_goes 53 = .ok (.invokevirtual 384, 3) := by decide +kernel
theorem dX12_goes_56 : decode cX12_goes 56 = .ok (.ireturn, 1) := by decide +kernel
theorem dX12_goes_42 : decode cX12_goes 42 = .ok (.ldc_w 330, 3) := by decide +kernel
theorem dX12_goes_45 : decode cX12_goes 45 = .ok (.ireturn, 1) := by decide +kernel
/-- HissHornModel.goes(II)I of cell 0 -/
def rmX12_goes_0 : Room := { frames := 141, cells := 0, slots := 0, locals := 8499 }
theorem hX12_goes_0_X12 : ∀ w ∈ u_ws RX12 TX12 69, w ∈ wsX12_goes := fun w h => (List.mem_cons_of_mem _ (List.mem_append_right _ h))
theorem mX12_goes_0_1 : Cond.fieldLink RX12 151 "HissHornModel" "thrown" "I" ∈ wsX12_goes := (List.mem_cons_of_mem _ (List.mem_append_left _ (List.mem_append_left _ (List.mem_of_getElem? (i := 0) rfl))))
theorem mX12_goes_0_2 : Cond.fieldLink RX12 159 "HissHornModel" "now" "I" ∈ wsX12_goes := (List.mem_cons_of_mem _ (List.mem_append_left _ (List.mem_append_left _ (List.mem_of_getElem? (i := 1) rfl))))
theorem mX12_goes_0_3 : Cond.constant RX12 330 (-100000000) ∈ wsX12_goes := (List.mem_cons_of_mem _ (List.mem_append_left _ (List.mem_append_left _ (List.mem_of_getElem? (i := 2) rfl))))
theorem mX12_goes_0_4 : Cond.fieldLink RX12 365 "HissHornModel" "knownMany" "I" ∈ wsX12_goes := (List.mem_cons_of_mem _ (List.mem_append_left _ (List.mem_append_left _ (List.mem_of_getElem? (i := 3) rfl))))
def fX12_goes_0 (x1 : Int32) (x2 : Int32) (u : SX) : Option (Int32 × SX) := (lt (sI u 0 0) fun u1 => ((fX12_isIn x1 0 (u1.1 1)).bind fun r3 => (if r3 = 0 then (some ((-100000000), u1)) else ((fX12_isIn x2 0 5).bind fun r6 => (if r6 = 0 then (some ((-100000000), u1)) else ((fX12_layAlike_0 x1 u1).bind fun q => match q with | (r9, u10) => (if (u10.1 18) = 0 then (some ((-100000000), u10)) else ((fX12_layMeans_0 x1 x2 u10).bind fun q => match q with | (r12, u13) => ((fX12_apart_0  u13).bind fun q => match q with | (r15, u16) => (some (r15, u16)))))))))))
set_option maxHeartbeats 4000000 in
set_option maxRecDepth 100000 in
theorem wX12_goes_0 {p : Program} {l : Launch} {e : Env} {s : State} {m : MethodId} {args : Array Value} {below : List Frame} {meth : Method} {c : Code} {D : va_G} {cy : Nat → ClassId} {ad st : Nat → Nat} (C : Cx RX12 cX12_goes 3 (some .int) wsX12_goes p s m args meth c) (hK : Kx D [(cy 0, .int), (cy 1, .long), (cy 2, .boolean), (cy 3, .byte), (cy 4, .object "HissHorn$Text")] st s) (hJ : JM ad) (x1 : Int32) (x2 : Int32) {u : SX} {r : Int32} {u' : SX} {H : Heap} {locs : List Loc} {ls : Array Slot} (h : fX12_goes_0 x1 x2 u = some (r, u')) (hP : va_P D vwCl (VM cy ad st u) H) (hS : va_S (Ax (AM ad) s.heap.size) s.heap H locs) (hl : lv_has ls 3 [(0, .ref (ad 0)), (1, .int x1), (2, .int x2)]) : W p l e rmX12_goes_0 s m args below meth c H locs 0 0 (MQ below (Qi D (VM cy ad st) (AM ad) s.heap.size r u') args s 0 0 (Ax (AM ad) s.heap.size)) (F0 m 0 ls []) := by
  unfold fX12_goes_0 at h
  refine lv_aload_n C.1 C.2.1 dX12_goes_0 rfl (lv_at hl 0 rfl) ?_
  refine lv_iconst (v := 0) C.1 C.2.1 dX12_goes_1 (by decide) ?_
  refine pM_0_thrown C hX12_goes_0_X12 hK hP hJ hS mX12_goes_0_1 dX12_goes_2 (fun H locs hP hS => ?_)
  obtain ⟨u1, hu2, h⟩ := lt_some h
  rw [← hu2] at hP
  refine lv_iload_n C.1 C.2.1 dX12_goes_5 rfl (lv_at hl 1 rfl) ?_
  refine lv_iconst (v := 0) C.1 C.2.1 dX12_goes_6 (by decide) ?_
  refine lv_aload_n C.1 C.2.1 dX12_goes_7 rfl (lv_at hl 0 rfl) ?_
  refine gM_0_now C hX12_goes_0_X12 hK hP mX12_goes_0_2 dX12_goes_8 ?_
  obtain ⟨r3, hc5, h⟩ := bd_some h
  refine cs_i (As := [.int x1, .int 0, .int (u1.1 1)]) (rest := []) C hK hP hS (metX12_isIn l D cy st _ x1 0 (u1.1 1) hc5) (va_cwS 3 C.2.2.2.2.2.1 gX12_goes_X12_isIn rfl rfl rfl (by decide +kernel) ⟨(Nat.le_of_ble_eq_true rfl), (Nat.le_of_ble_eq_true rfl)⟩) rfl hl.1 rfl (Nat.le_of_ble_eq_true rfl) dX12_goes_11 ⟨Nat.zero_le _, Nat.zero_le _⟩ (fun H locs hP hS => ?_)
  refine lv_if_eq (tgt := 26) C.1 C.2.1 dX12_goes_14 (by decide) (fun c14 => ?_) (fun c14 => ?_)
  · rw [if_pos c14] at h
    refine lv_ldcw C.1 C.2.1 C.2.2.2.2.1 (C.2.2.2.2.2.1 _ mX12_goes_0_3) dX12_goes_26 ?_
    cases h
    exact rt_i C hP hS dX12_goes_29
  · rw [if_neg c14] at h
    refine lv_iload_n C.1 C.2.1 dX12_goes_17 rfl (lv_at hl 2 rfl) ?_
    refine lv_iconst (v := 0) C.1 C.2.1 dX12_goes_18 (by decide) ?_
    refine lv_iconst (v := 5) C.1 C.2.1 dX12_goes_19 (by decide) ?_
    obtain ⟨r6, hc8, h⟩ := bd_some h
    refine cs_i (As := [.int x2, .int 0, .int 5]) (rest := []) C hK hP hS (metX12_isIn l D cy st _ x2 0 5 hc8) (va_cwS 3 C.2.2.2.2.2.1 gX12_goes_X12_isIn rfl rfl rfl (by decide +kernel) ⟨(Nat.le_of_ble_eq_true rfl), (Nat.le_of_ble_eq_true rfl)⟩) rfl hl.1 rfl (Nat.le_of_ble_eq_true rfl) dX12_goes_20 ⟨Nat.zero_le _, Nat.zero_le _⟩ (fun H locs hP hS => ?_)
    refine lv_if_ne (tgt := 30) C.1 C.2.1 dX12_goes_23 (by decide) (fun c23 => ?_) (fun c23 => ?_)
    · rw [if_neg c23] at h
      refine lv_aload_n C.1 C.2.1 dX12_goes_30 rfl (lv_at hl 0 rfl) ?_
      refine lv_iload_n C.1 C.2.1 dX12_goes_31 rfl (lv_at hl 1 rfl) ?_
      obtain ⟨⟨r9, u10⟩, hc11, h⟩ := bd_some h
      try dsimp only at h
      refine cg_v (As := [.int x1]) (rest := []) C hK hP hS (metX12_layAlike_0 l D cy ad st hJ _ x1 hc11) (cwV 1 C.2.2.2.2.2.1 gX12_goes_X12_layAlike rfl rfl rfl (by decide +kernel) ⟨(Nat.le_of_ble_eq_true rfl), (Nat.le_of_ble_eq_true rfl)⟩) 0 12 rfl rfl rfl hl.1 rfl (Nat.le_of_ble_eq_true rfl) dX12_goes_32 ⟨Nat.zero_le _, Nat.zero_le _⟩ (fun H locs hP hS => ?_)
      refine lv_aload_n C.1 C.2.1 dX12_goes_35 rfl (lv_at hl 0 rfl) ?_
      refine gM_0_knownMany C hX12_goes_0_X12 hK hP mX12_goes_0_4 dX12_goes_36 ?_
      refine lv_if_ne (tgt := 46) C.1 C.2.1 dX12_goes_39 (by decide) (fun c39 => ?_) (fun c39 => ?_)
      · rw [if_neg c39] at h
        refine lv_aload_n C.1 C.2.1 dX12_goes_46 rfl (lv_at hl 0 rfl) ?_
        refine lv_iload_n C.1 C.2.1 dX12_goes_47 rfl (lv_at hl 1 rfl) ?_
        refine lv_iload_n C.1 C.2.1 dX12_goes_48 rfl (lv_at hl 2 rfl) ?_
        obtain ⟨⟨r12, u13⟩, hc14, h⟩ := bd_some h
        try dsimp only at h
        refine cg_v (As := [.int x1, .int x2]) (rest := []) C hK hP hS (metX12_layMeans_0 l D cy ad st hJ _ x1 x2 hc14) (cwV 2 C.2.2.2.2.2.1 gX12_goes_X12_layMeans rfl rfl rfl (by decide +kernel) ⟨(Nat.le_of_ble_eq_true rfl), (Nat.le_of_ble_eq_true rfl)⟩) 0 12 rfl rfl rfl hl.1 rfl (Nat.le_of_ble_eq_true rfl) dX12_goes_49 ⟨Nat.zero_le _, Nat.zero_le _⟩ (fun H locs hP hS => ?_)
        refine lv_aload_n C.1 C.2.1 dX12_goes_52 rfl (lv_at hl 0 rfl) ?_
        obtain ⟨⟨r15, u16⟩, hc17, h⟩ := bd_some h
        try dsimp only at h
        refine cg_i (As := []) (rest := []) C hK hP hS (metX12_apart_0 l D cy ad st hJ _  hc17) (cwV 0 C.2.2.2.2.2.1 gX12_goes_X12_apart rfl rfl rfl (by decide +kernel) ⟨(Nat.le_of_ble_eq_true rfl), (Nat.le_of_ble_eq_true rfl)⟩) 0 12 rfl rfl rfl hl.1 rfl (Nat.le_of_ble_eq_true rfl) dX12_goes_53 ⟨Nat.zero_le _, Nat.zero_le _⟩ (fun H locs hP hS => ?_)
        cases h
        exact rt_i C hP hS dX12_goes_56
      · rw [if_pos c39] at h
        refine lv_ldcw C.1 C.2.1 C.2.2.2.2.1 (C.2.2.2.2.2.1 _ mX12_goes_0_3) dX12_goes_42 ?_
        cases h
        exact rt_i C hP hS dX12_goes_45
    · rw [if_pos c23] at h
      refine lv_ldcw C.1 C.2.1 C.2.2.2.2.1 (C.2.2.2.2.2.1 _ mX12_goes_0_3) dX12_goes_26 ?_
      cases h
      exact rt_i C hP hS dX12_goes_29
theorem metX12_goes_0 (l : Launch) (D : va_G) (cy : Nat → ClassId) (ad st : Nat → Nat) (hJ : JM ad) (sz : Nat) (x1 : Int32) (x2 : Int32) {u : SX} {r : Int32} {u' : SX} (h : fX12_goes_0 x1 x2 u = some (r, u')) : Met l yX12_goes wsX12_goes rmX12_goes_0 (va_Pc [.ref (ad 0), .int x1, .int x2] (Px D [(cy 0, .int), (cy 1, .long), (cy 2, .boolean), (cy 3, .byte), (cy 4, .object "HissHorn$Text")] st (VM cy ad st) sz u)) (Qi D (VM cy ad st) (AM ad) sz r u') 0 0 (Ax (AM ad) sz) := by
  refine Met.ofW (cc := cX12_goes) (maxL := 3) (ret := (some .int)) (by decide) rfl ?_
  intro p e s m args below meth c s₁ B hml hv
  obtain ⟨rfl, hsz, hP, hK⟩ := hv
  subst hsz
  have C : Cx RX12 cX12_goes 3 (some .int) wsX12_goes p s m _ meth c := ⟨B.exec, B.bytes, hml, B.returns, findClass_of_methodNamed B.named, atoms_spec (ws := wsX12_goes) B.pre, B.notSynchronized⟩
  have hl := lv_entry ([.ref (ad 0), .int x1, .int x2]) (n := 3) (Nat.le_of_ble_eq_true rfl)
  rw [lg_entry_eq]
  exact wX12_goes_0 C hK hJ x1 x2 h hP va_S.rf hl

theorem dX12_even_153 : decode cX12_even 153 = .ok (.iinc 4 1, 3) := by decide +kernel
theorem dX12_even_156 : decode cX12_even 156 = .ok (.goto (-57), 3) := by decide +kernel
theorem dX12_even_99 : decode cX12_even 99 = .ok (.iload 4, 2) := by decide +kernel
theorem dX12_even_101 : decode cX12_even 101 = .ok (.bipush 8, 2) := by decide +kernel
theorem dX12_even_103 : decode cX12_even 103 = .ok (.if_icmp .ge 56, 3) := by decide +kernel
theorem dX12_even_159 : decode cX12_even 159 = .ok (.iload_n 3, 1) := by decide +kernel
theorem dX12_even_160 : decode cX12_even 160 = .ok (.ireturn, 1) := by decide +kernel
theorem dX12_even_106 : decode cX12_even 106 = .ok (.aload_n 0, 1) := by decide +kernel
theorem dX12_even_107 : decode cX12_even 107 = .ok (.getfield 87, 3) := by decide +kernel
theorem dX12_even_110 : decode cX12_even 110 = .ok (.iload 4, 2) := by decide +kernel
theorem dX12_even_112 : decode cX12_even 112 = .ok (.iaload, 1) := by decide +kernel
theorem dX12_even_113 : decode cX12_even 113 = .ok (.ifCond .le 40, 3) := by decide +kernel
theorem dX12_even_116 : decode cX12_even 116 = .ok (.aload_n 0, 1) := by decide +kernel
theorem dX12_even_117 : decode cX12_even 117 = .ok (.getfield 87, 3) := by decide +kernel
theorem dX12_even_120 : decode cX12_even 120 = .ok (.iload 4, 2) := by decide +kernel
theorem dX12_even_122 : decode cX12_even 122 = .ok (.bipush 8, 2) := by decide +kernel
theorem dX12_even_124 : decode cX12_even 124 = .ok (.iadd, 1) := by decide +kernel
theorem dX12_even_125 : decode cX12_even 125 = .ok (.iaload, 1) := by decide +kernel
theorem dX12_even_126 : decode cX12_even 126 = .ok (.ifCond .le 27, 3) := by decide +kernel
theorem dX12_even_129 : decode cX12_even 129 = .ok (.iload_n 3, 1) := by decide +kernel
theorem dX12_even_130 : decode cX12_even 130 = .ok (.aload_n 0, 1) := by decide +kernel
theorem dX12_even_131 : decode cX12_even 131 = .ok (.iload 4, 2) := by decide +kernel
set_option maxRecDepth 20000 in
theorem ggX12_even_X12_mean : GoodIn wsX12_even wsX12_mean := goodIn_r _ [272, 20, 4, 273, 274, 275, 276, 277, 278, 279, 280, 281, 282, 283, 284, 285, 286, 287, 288, 289, 290, 291, 292, 293, 294, 295, 296, 297, 298, 299, 300, 301, 302, 303, 304, 305, 306, 307, 308, 309, 310, 311, 312, 313, 314, 315, 316, 317, 318, 319, 320, 321, 322, 323, 324, 325, 326, 327, 328, 329, 330, 331, 332, 333, 334, 335, 336, 337, 338, 339, 340, 341] (by decide +kernel) (by decide +kernel)
set_option maxRecDepth 20000 in
theorem gX12_even_X12_mean : GoodIn wsX12_even (wsV RX12 378 RX12 yX12_mean wsX12_mean) := goodIn_app (goodIn_of _ (by decide +kernel)) ggX12_even_X12_mean
theorem dX12_even_133 : decode cX12_even 133 = .ok (.invokevirtual 378, 3) := by decide +kernel
theorem dX12_even_136 : decode cX12_even 136 = .ok (.aload_n 0, 1) := by decide +kernel
theorem dX12_even_137 : decode cX12_even 137 = .ok (.iload 4, 2) := by decide +kernel
theorem dX12_even_139 : decode cX12_even 139 = .ok (.bipush 8, 2) := by decide +kernel
theorem dX12_even_141 : decode cX12_even 141 = .ok (.iadd, 1) := by decide +kernel
theorem dX12_even_142 : decode cX12_even 142 = .ok (.invokevirtual 378, 3) := by decide +kernel
theorem dX12_even_145 : decode cX12_even 145 = .ok (.isub, 1) := by decide +kernel
theorem dX12_even_146 : decode cX12_even 146 = .ok (.invokestatic 387, 3) := by decide +kernel
theorem dX12_even_149 : decode cX12_even 149 = .ok (.invokestatic 293, 3) := by decide +kernel
theorem dX12_even_152 : decode cX12_even 152 = .ok (.istore_n 3, 1) := by decide +kernel
theorem dX12_even_68 : decode cX12_even 68 = .ok (.iadd, 1) := by decide +kernel
theorem dX12_even_69 : decode cX12_even 69 = .ok (.istore_n 3, 1) := by decide +kernel
theorem dX12_even_70 : decode cX12_even 70 = .ok (.iinc 4 1, 3) := by decide +kernel
theorem dX12_even_73 : decode cX12_even 73 = .ok (.goto (-28), 3) := by decide +kernel
theorem dX12_even_45 : decode cX12_even 45 = .ok (.iload 4, 2) := by decide +kernel
theorem dX12_even_47 : decode cX12_even 47 = .ok (.bipush 16, 2) := by decide +kernel
theorem dX12_even_49 : decode cX12_even 49 = .ok (.if_icmp .ge 27, 3) := by decide +kernel
theorem dX12_even_52 : decode cX12_even 52 = .ok (.iload_n 3, 1) := by decide +kernel
theorem dX12_even_53 : decode cX12_even 53 = .ok (.aload_n 0, 1) := by decide +kernel
theorem dX12_even_54 : decode cX12_even 54 = .ok (.getfield 87, 3) := by decide +kernel
theorem dX12_even_57 : decode cX12_even 57 = .ok (.iload 4, 2) := by decide +kernel
theorem dX12_even_59 : decode cX12_even 59 = .ok (.iaload, 1) := by decide +kernel
theorem dX12_even_60 : decode cX12_even 60 = .ok (.ifCond .le 7, 3) := by decide +kernel
theorem dX12_even_67 : decode cX12_even 67 = .ok (.iconst 0, 1) := by decide +kernel
theorem dX12_even_63 : decode cX12_even 63 = .ok (.iconst 1, 1) := by decide +kernel
theorem dX12_even_64 : decode cX12_even 64 = .ok (.goto 4, 3) := by decide +kernel
theorem dX12_even_76 : decode cX12_even 76 = .ok (.iload_n 3, 1) := by decide +kernel
theorem dX12_even_77 : decode cX12_even 77 = .ok (.iconst 2, 1) := by decide +kernel
theorem dX12_even_78 : decode cX12_even 78 = .ok (.if_icmp .ge 9, 3) := by decide +kernel
theorem dX12_even_87 : decode cX12_even 87 = .ok (.aload_n 0, 1) := by decide +kernel
set_option maxRecDepth 20000 in
theorem ggX12_even_X12_apart : GoodIn wsX12_even wsX12_apart := goodIn_r _ [267, 3, 268, 4, 9, 10, 7, 11, 48, 49, 50, 269, 270, 271, 14, 272, 20, 273, 274, 275, 276, 277, 278, 279, 280, 281, 282, 283, 284, 285, 286, 287, 288, 289, 290, 291, 292, 293, 294, 295, 296, 297, 298, 299, 300, 301, 302, 303, 304, 305, 306, 307, 308, 309, 310, 311, 312, 313, 314, 315, 316, 317, 318, 319, 320, 321, 322, 323, 324, 325, 326, 327, 328, 329, 330, 331, 332, 333, 334, 335, 336, 337, 338, 339, 340, 341] (by decide +kernel) (by decide +kernel)
set_option maxRecDepth 20000 in
theorem gX12_even_X12_apart : GoodIn wsX12_even (wsV RX12 384 RX12 yX12_apart wsX12_apart) := goodIn_app (goodIn_of _ (by decide +kernel)) ggX12_even_X12_apart
theorem dX12_even_88 : decode cX12_even 88 = .ok (.invokevirtual 384, 3) := by decide +kernel
theorem dX12_even_91 : decode cX12_even 91 = .ok (.ireturn, 1) := by decide +kernel
theorem dX12_even_81 : decode cX12_even 81 = .ok (.ldc_w 330, 3) := by decide +kernel
theorem dX12_even_84 : decode cX12_even 84 = .ok (.goto 7, 3) := by decide +kernel
theorem dX12_even_0 : decode cX12_even 0 = .ok (.aload_n 0, 1) := by decide +kernel
theorem dX12_even_1 : decode cX12_even 1 = .ok (.iconst 0, 1) := by decide +kernel
theorem dX12_even_2 : decode cX12_even 2 = .ok (.putfield 151, 3) := by decide +kernel
theorem dX12_even_5 : decode cX12_even 5 = .ok (.iload_n 1, 1) := by decide +kernel
theorem dX12_even_6 : decode cX12_even 6 = .ok (.iconst 0, 1) := by decide +kernel
theorem dX12_even_7 : decode cX12_even 7 = .ok (.aload_n 0, 1) := by decide +kernel
theorem dX12_even_8 : decode cX12_even 8 = .ok (.getfield 159, 3) := by decide +kernel
set_option maxRecDepth 20000 in
theorem ggX12_even_X12_isIn : GoodIn wsX12_even wsX12_isIn := goodIn_r _ [15] (by decide +kernel) (by decide +kernel)
set_option maxRecDepth 20000 in
theorem gX12_even_X12_isIn : GoodIn wsX12_even (va_wsS RX12 155 yX12_isIn wsX12_isIn) := goodIn_app (goodIn_of _ (by decide +kernel)) ggX12_even_X12_isIn
theorem dX12_even_11 : decode cX12_even 11 = .ok (.invokestatic 155, 3) := by decide +kernel
theorem dX12_even_14 : decode cX12_even 14 = .ok (.ifCond .eq 12, 3) := by decide +kernel
theorem dX12_even_26 : decode cX12_even 26 = .ok (.ldc_w 330, 3) := by decide +kernel
theorem dX12_even_29 : decode cX12_even 29 = .ok (.ireturn, 1) := by decide +kernel
theorem dX12_even_17 : decode cX12_even 17 = .ok (.iload_n 2, 1) := by decide +kernel
theorem dX12_even_18 : decode cX12_even 18 = .ok (.iconst 0, 1) := by decide +kernel
theorem dX12_even_19 : decode cX12_even 19 = .ok (.iconst 1, 1) := by decide +kernel
theorem dX12_even_20 : decode cX12_even 20 = .ok (.invokestatic 155, 3) := by decide +kernel
theorem dX12_even_23 : decode cX12_even 23 = .ok (.ifCond .ne 7, 3) := by decide +kernel
theorem dX12_even_30 : decode cX12_even 30 = .ok (.aload_n 0, 1) := by decide +kernel
theorem dX12_even_31 : decode cX12_even 31 = .ok (.iload_n 1, 1) := by decide +kernel
theorem dX12_even_32 : decode cX12_even 32 = .ok (.iconst 0, 1) := by decide +kernel
set_option maxRecDepth 20000 in
theorem ggX12_even_X12_layMeans : GoodIn wsX12_even wsX12_layMeans := goodIn_r _ [19, 20, 4, 21, 22, 23, 24, 25, 26, 27, 14, 28, 29, 30, 31, 32, 33, 34, 35, 36, 37, 38, 39, 40, 41, 42, 43, 44, 45, 46, 47, 9, 10, 7, 11, 48, 49, 50, 51, 52, 53, 54, 55, 56, 57, 58, 59, 60, 61, 62, 63, 64, 65, 66, 67, 68, 69, 70, 71, 72, 73, 74, 75, 76, 77, 78, 79, 80, 81, 82, 83, 84, 85, 86, 87, 88, 89, 90, 91, 92, 93, 94, 95, 96, 97, 98, 99, 100, 101, 102, 103, 104, 105, 106, 107, 108, 109, 110, 111, 112, 113, 114, 115, 116, 117, 118, 119, 120, 121, 122, 123, 124, 125, 126, 127, 128, 129, 130, 131, 132, 133, 134, 135, 136, 137, 138, 139, 140, 141, 142, 143, 144, 145, 146, 147, 148, 149, 150, 151, 152, 153, 154, 155, 156, 157, 158, 159, 160, 161, 162, 163, 164, 165, 166, 167, 168, 169, 170, 171, 172, 173, 174, 175, 176, 177, 178, 179, 180, 181, 182, 183, 184, 185, 186, 187, 188, 189, 190, 191, 192, 193, 194, 195, 196, 197, 198, 199, 200, 201, 202, 203, 204, 205, 206, 207, 208, 209, 210, 211, 212, 213, 214, 215, 216, 217, 218, 219, 220, 221, 222, 223, 224, 225, 226, 227, 228, 229, 230, 231, 232, 233, 234, 235, 236, 237, 238, 239, 240, 241, 242, 243, 244, 245, 246, 247, 248, 249, 250, 251, 252, 253, 254, 255, 256, 257, 258, 259, 260, 261, 262, 263, 273, 274, 275, 276, 277, 278, 279, 280, 281, 282, 283, 284, 285, 286, 287, 288, 289, 290, 291, 292, 293, 294, 295, 296, 297, 298, 299, 300, 301, 302, 303, 304, 305, 306, 307, 308, 309, 310, 311, 312, 313, 314, 315, 316, 317, 318, 319, 320, 321, 322, 323, 324, 325, 326, 327, 328, 329, 330, 331, 332, 333, 334, 335, 336, 337, 338, 339, 340, 341] (by decide +kernel) (by decide +kernel)
set_option maxRecDepth 20000 in
theorem gX12_even_X12_layMeans : GoodIn wsX12_even (wsV RX12 381 RX12 yX12_layMeans wsX12_layMeans) := goodIn_app (goodIn_of _ (by decide +kernel)) ggX12_even_X12_layMeans
theorem dX12_even_33 : decode cX12_even 33 = .ok (.invokevirtual 381, 3) := by decide +kernel
theorem dX12_even_36 : decode cX12_even 36 = .ok (.iload_n 2, 1) := by decide +kernel
theorem dX12_even_37 : decode cX12_even 37 = .ok (.ifCond .ne 55, 3) := by decide +kernel
theorem dX12_even_92 : decode cX12_even 92 = .ok (.ldc_w 330, 3) := by decide +kernel
theorem dX12_even_95 : decode cX12_even 95 = .ok (.istore_n 3, 1) := by decide +kernel
theorem dX12_even_96 : decode cX12_even 96 = .ok (.iconst 0, 1) := by decide +kernel
theorem dX12_even_97 : decode cX12_even 97 = .ok (.istore 4, 2) := by decide +kernel
theorem dX12_even_40 : decode cX12_even 40 = .ok (.iconst 0, 1) := by decide +kernel
theorem dX12_even_41 : decode cX12_even 41 = .ok (.istore_n 3, 1) := by decide +kernel
theorem dX12_even_42 : decode cX12_even 42 = .ok (.iconst 0, 1) := by decide +kernel
theorem dX12_even_43 : decode cX12_even 43 = .ok (.istore 4, 2) := by decide +kernel
/-- HissHornModel.even(II)I of cell 0 -/
def rmX12_even_0 : Room := { frames := 141, cells := 0, slots := 0, locals := 8499 }
theorem hX12_even_0_X12 : ∀ w ∈ u_ws RX12 TX12 69, w ∈ wsX12_even := fun w h => (List.mem_cons_of_mem _ (List.mem_append_right _ h))
theorem mX12_even_0_1 : Cond.fieldLink RX12 151 "HissHornModel" "thrown" "I" ∈ wsX12_even := (List.mem_cons_of_mem _ (List.mem_append_left _ (List.mem_append_left _ (List.mem_of_getElem? (i := 0) rfl))))
theorem mX12_even_0_2 : Cond.fieldLink RX12 159 "HissHornModel" "now" "I" ∈ wsX12_even := (List.mem_cons_of_mem _ (List.mem_append_left _ (List.mem_append_left _ (List.mem_of_getElem? (i := 1) rfl))))
theorem mX12_even_0_3 : Cond.constant RX12 330 (-100000000) ∈ wsX12_even := (List.mem_cons_of_mem _ (List.mem_append_left _ (List.mem_append_left _ (List.mem_of_getElem? (i := 2) rfl))))
theorem mX12_even_0_4 : Cond.fieldLink RX12 87 "HissHornModel" "many" "[I" ∈ wsX12_even := (List.mem_cons_of_mem _ (List.mem_append_left _ (List.mem_append_left _ (List.mem_of_getElem? (i := 3) rfl))))
def GX12_even_0_153 (k99 : Int32 → Int32 → SX → Option (Int32 × SX)) (z3 : Int32) (z4 : Int32) (u : SX) : Option (Int32 × SX) := (k99 z3 (z4 + 1) u)
theorem mX12_even_0_5 : Cond.methodLink RX12 387 Lib.Math.abs.name ∈ wsX12_even := (List.mem_cons_of_mem _ (List.mem_append_left _ (List.mem_append_left _ (List.mem_of_getElem? (i := 4) rfl))))
theorem mX12_even_0_6 : Cond.static Lib.Math.abs.name ∈ wsX12_even := (List.mem_cons_of_mem _ (List.mem_append_left _ (List.mem_append_left _ (List.mem_of_getElem? (i := 5) rfl))))
theorem mX12_even_0_7 : Cond.initialized "java/lang/Math" ∈ wsX12_even := (List.mem_cons_of_mem _ (List.mem_append_left _ (List.mem_append_left _ (List.mem_of_getElem? (i := 6) rfl))))
theorem mX12_even_0_8 : Cond.code Lib.Math.abs.name Lib.Math.abs.code 1 (some .int) ∈ wsX12_even := (List.mem_cons_of_mem _ (List.mem_append_left _ (List.mem_append_left _ (List.mem_of_getElem? (i := 7) rfl))))
theorem mX12_even_0_9 : Cond.methodLink RX12 293 Lib.Math.max.name ∈ wsX12_even := (List.mem_cons_of_mem _ (List.mem_append_left _ (List.mem_append_left _ (List.mem_of_getElem? (i := 8) rfl))))
theorem mX12_even_0_10 : Cond.static Lib.Math.max.name ∈ wsX12_even := (List.mem_cons_of_mem _ (List.mem_append_left _ (List.mem_append_left _ (List.mem_of_getElem? (i := 9) rfl))))
theorem mX12_even_0_11 : Cond.code Lib.Math.max.name Lib.Math.max.code 2 (some .int) ∈ wsX12_even := (List.mem_cons_of_mem _ (List.mem_append_left _ (List.mem_append_left _ (List.mem_of_getElem? (i := 10) rfl))))
def LX12_even_0_99  : Nat → Int32 → Int32 → SX → Option (Int32 × SX)
  | 0, _, _, _ => none
  | n + 1, z3, z4, u => (if 8 ≤ z4 then (some (z3, u)) else (gd (inb z4 41) (if (u.2.1 23 z4.toNatClampNeg) ≤ 0 then (GX12_even_0_153 (LX12_even_0_99 n) z3 z4 u) else (gd (inb (z4 + 8) 41) (if (u.2.1 23 (z4 + 8).toNatClampNeg) ≤ 0 then (GX12_even_0_153 (LX12_even_0_99 n) z3 z4 u) else ((fX12_mean_0 z4 u).bind fun q => match q with | (r14, u15) => ((fX12_mean_0 (z4 + 8) u15).bind fun q => match q with | (r17, u18) => (lt (if z3 < (if 0 ≤ (r14 - r17) then (r14 - r17) else 0 - (r14 - r17)) then (if 0 ≤ (r14 - r17) then (r14 - r17) else 0 - (r14 - r17)) else z3) fun v20 => (GX12_even_0_153 (LX12_even_0_99 n) v20 z4 u18)))))))))
def GX12_even_0_68 (k45 : Int32 → Int32 → SX → Option (Int32 × SX)) (z4 : Int32) (y0 : Int32) (y1 : Int32) (u : SX) : Option (Int32 × SX) := (lt (y1 + y0) fun v23 => (k45 v23 (z4 + 1) u))
def LX12_even_0_45 (k76 : Int32 → SX → Option (Int32 × SX)) : Nat → Int32 → Int32 → SX → Option (Int32 × SX)
  | 0, _, _, _ => none
  | n + 1, z3, z4, u => (if 16 ≤ z4 then (k76 z3 u) else (gd (inb z4 41) (if (u.2.1 23 z4.toNatClampNeg) ≤ 0 then (GX12_even_0_68 (LX12_even_0_45 k76 n) z4 0 z3 u) else (GX12_even_0_68 (LX12_even_0_45 k76 n) z4 1 z3 u))))
def GX12_even_0_76 (z3 : Int32) (u : SX) : Option (Int32 × SX) := (if 2 ≤ z3 then ((fX12_apart_0  u).bind fun q => match q with | (r25, u26) => (some (r25, u26))) else (some ((-100000000), u)))
def fX12_even_0 (x1 : Int32) (x2 : Int32) (u : SX) : Option (Int32 × SX) := (lt (sI u 0 0) fun u1 => ((fX12_isIn x1 0 (u1.1 1)).bind fun r3 => (if r3 = 0 then (some ((-100000000), u1)) else ((fX12_isIn x2 0 1).bind fun r6 => (if r6 = 0 then (some ((-100000000), u1)) else ((fX12_layMeans_0 x1 0 u1).bind fun q => match q with | (r9, u10) => (if x2 = 0 then (LX12_even_0_45 GX12_even_0_76 5000 0 0 u10) else (LX12_even_0_99  5000 (-100000000) 0 u10))))))))
set_option maxHeartbeats 4000000 in
set_option maxRecDepth 100000 in
theorem wGX12_even_0_153 {p : Program} {l : Launch} {e : Env} {s : State} {m : MethodId} {args : Array Value} {below : List Frame} {meth : Method} {c : Code} {D : va_G} {cy : Nat → ClassId} {ad st : Nat → Nat} (C : Cx RX12 cX12_even 5 (some .int) wsX12_even p s m args meth c) (hK : Kx D [(cy 0, .int), (cy 1, .long), (cy 2, .boolean), (cy 3, .byte), (cy 4, .object "HissHorn$Text")] st s) (hJ : JM ad) {r : Int32} {u' : SX} {k99 : Int32 → Int32 → SX → Option (Int32 × SX)} (hk99 : ∀ (z3 : Int32) (z4 : Int32) (u : SX) (H : Heap) (locs : List Loc) (ls : Array Slot), k99 z3 z4 u = some (r, u') → va_P D vwCl (VM cy ad st u) H → va_S (Ax (AM ad) s.heap.size) s.heap H locs → lv_has ls 5 [(0, .ref (ad 0)), (3, .int z3), (4, .int z4)] → W p l e rmX12_even_0 s m args below meth c H locs 0 0 (MQ below (Qi D (VM cy ad st) (AM ad) s.heap.size r u') args s 0 0 (Ax (AM ad) s.heap.size)) (F0 m 99 ls [])) (z3 : Int32) (z4 : Int32) (u : SX) (H : Heap) (locs : List Loc) (ls : Array Slot) (h : GX12_even_0_153 k99 z3 z4 u = some (r, u')) (hP : va_P D vwCl (VM cy ad st u) H) (hS : va_S (Ax (AM ad) s.heap.size) s.heap H locs) (hl : lv_has ls 5 [(0, .ref (ad 0)), (3, .int z3), (4, .int z4)]) : W p l e rmX12_even_0 s m args below meth c H locs 0 0 (MQ below (Qi D (VM cy ad st) (AM ad) s.heap.size r u') args s 0 0 (Ax (AM ad) s.heap.size)) (F0 m 153 ls []) := by
  unfold GX12_even_0_153 at h
  refine lv_iinc (v := z4 + 1) (lv' := [(4, .int (z4 + 1)), (0, .ref (ad 0)), (3, .int z3)]) C.1 C.2.1 dX12_even_153 hl (k := 2) rfl rfl (by decide) rfl (fun ls hl => ?_)
  replace hl := lv_sub (l' := [(0, .ref (ad 0)), (3, .int z3), (4, .int (z4 + 1))]) hl [1, 2, 0] rfl
  refine lv_goto (tgt := 99) C.1 C.2.1 dX12_even_156 (by decide) ?_
  exact hk99 _ _ _ _ _ _ h hP hS hl
set_option maxHeartbeats 4000000 in
set_option maxRecDepth 100000 in
theorem wLX12_even_0_99 {p : Program} {l : Launch} {e : Env} {s : State} {m : MethodId} {args : Array Value} {below : List Frame} {meth : Method} {c : Code} {D : va_G} {cy : Nat → ClassId} {ad st : Nat → Nat} (C : Cx RX12 cX12_even 5 (some .int) wsX12_even p s m args meth c) (hK : Kx D [(cy 0, .int), (cy 1, .long), (cy 2, .boolean), (cy 3, .byte), (cy 4, .object "HissHorn$Text")] st s) (hJ : JM ad) {r : Int32} {u' : SX}   : ∀ (n : Nat) (z3 : Int32) (z4 : Int32) (u : SX) (H : Heap) (locs : List Loc) (ls : Array Slot), LX12_even_0_99  n z3 z4 u = some (r, u') → va_P D vwCl (VM cy ad st u) H → va_S (Ax (AM ad) s.heap.size) s.heap H locs → lv_has ls 5 [(0, .ref (ad 0)), (3, .int z3), (4, .int z4)] → W p l e rmX12_even_0 s m args below meth c H locs 0 0 (MQ below (Qi D (VM cy ad st) (AM ad) s.heap.size r u') args s 0 0 (Ax (AM ad) s.heap.size)) (F0 m 99 ls []) := by
  intro n
  induction n with
  | zero =>
    intro z3 z4 u H locs ls h
    exact absurd h (by intro q; cases q)
  | succ n ih =>
    intro z3 z4 u H locs ls h hP hS hl
    rw [LX12_even_0_99] at h
    refine lv_iload C.1 C.2.1 dX12_even_99 (lv_at hl 2 rfl) ?_
    refine lv_bipush (v := 8) C.1 C.2.1 dX12_even_101 (by decide) ?_
    refine lv_icmp_ge (tgt := 159) C.1 C.2.1 dX12_even_103 (by decide) (fun c103 => ?_) (fun c103 => ?_)
    · rw [if_pos c103] at h
      refine lv_iload_n C.1 C.2.1 dX12_even_159 rfl (lv_at hl 1 rfl) ?_
      cases h
      exact rt_i C hP hS dX12_even_160
    · rw [if_neg c103] at h
      refine lv_aload_n C.1 C.2.1 dX12_even_106 rfl (lv_at hl 0 rfl) ?_
      refine gM_0_many C hX12_even_0_X12 hK hP mX12_even_0_4 dX12_even_107 ?_
      refine lv_iload C.1 C.2.1 dX12_even_110 (lv_at hl 2 rfl) ?_
      obtain ⟨hg12, h⟩ := gd_some h
      refine lM_23 C hK hP hg12 dX12_even_112 ?_
      refine lv_if_le (tgt := 153) C.1 C.2.1 dX12_even_113 (by decide) (fun c113 => ?_) (fun c113 => ?_)
      · rw [if_pos c113] at h
        exact wGX12_even_0_153 C hK hJ ih _ _ _ _ _ _ h hP hS hl
      · rw [if_neg c113] at h
        refine lv_aload_n C.1 C.2.1 dX12_even_116 rfl (lv_at hl 0 rfl) ?_
        refine gM_0_many C hX12_even_0_X12 hK hP mX12_even_0_4 dX12_even_117 ?_
        refine lv_iload C.1 C.2.1 dX12_even_120 (lv_at hl 2 rfl) ?_
        refine lv_bipush (v := 8) C.1 C.2.1 dX12_even_122 (by decide) ?_
        refine lv_iadd C.1 C.2.1 dX12_even_124 ?_
        obtain ⟨hg13, h⟩ := gd_some h
        refine lM_23 C hK hP hg13 dX12_even_125 ?_
        refine lv_if_le (tgt := 153) C.1 C.2.1 dX12_even_126 (by decide) (fun c126 => ?_) (fun c126 => ?_)
        · rw [if_pos c126] at h
          exact wGX12_even_0_153 C hK hJ ih _ _ _ _ _ _ h hP hS hl
        · rw [if_neg c126] at h
          refine lv_iload_n C.1 C.2.1 dX12_even_129 rfl (lv_at hl 1 rfl) ?_
          refine lv_aload_n C.1 C.2.1 dX12_even_130 rfl (lv_at hl 0 rfl) ?_
          refine lv_iload C.1 C.2.1 dX12_even_131 (lv_at hl 2 rfl) ?_
          obtain ⟨⟨r14, u15⟩, hc16, h⟩ := bd_some h
          try dsimp only at h
          refine cg_i (As := [.int z4]) (rest := [.int z3]) C hK hP hS (metX12_mean_0 l D cy ad st hJ _ z4 hc16) (cwV 1 C.2.2.2.2.2.1 gX12_even_X12_mean rfl rfl rfl (by decide +kernel) ⟨(Nat.le_of_ble_eq_true rfl), (Nat.le_of_ble_eq_true rfl)⟩) 0 12 rfl rfl rfl hl.1 rfl (Nat.le_of_ble_eq_true rfl) dX12_even_133 ⟨Nat.zero_le _, Nat.zero_le _⟩ (fun H locs hP hS => ?_)
          refine lv_aload_n C.1 C.2.1 dX12_even_136 rfl (lv_at hl 0 rfl) ?_
          refine lv_iload C.1 C.2.1 dX12_even_137 (lv_at hl 2 rfl) ?_
          refine lv_bipush (v := 8) C.1 C.2.1 dX12_even_139 (by decide) ?_
          refine lv_iadd C.1 C.2.1 dX12_even_141 ?_
          obtain ⟨⟨r17, u18⟩, hc19, h⟩ := bd_some h
          try dsimp only at h
          refine cg_i (As := [.int (z4 + 8)]) (rest := [.int r14, .int z3]) C hK hP hS (metX12_mean_0 l D cy ad st hJ _ (z4 + 8) hc19) (cwV 1 C.2.2.2.2.2.1 gX12_even_X12_mean rfl rfl rfl (by decide +kernel) ⟨(Nat.le_of_ble_eq_true rfl), (Nat.le_of_ble_eq_true rfl)⟩) 0 12 rfl rfl rfl hl.1 rfl (Nat.le_of_ble_eq_true rfl) dX12_even_142 ⟨Nat.zero_le _, Nat.zero_le _⟩ (fun H locs hP hS => ?_)
          refine lv_isub C.1 C.2.1 dX12_even_145 ?_
          refine va_mabs C.1 C.2.1 (C.2.2.1.trans hl.1.symm) C.2.2.2.2.1 (C.2.2.2.2.2.1 _ mX12_even_0_5) (C.2.2.2.2.2.1 _ mX12_even_0_6) (C.2.2.2.2.2.1 _ mX12_even_0_7) (C.2.2.2.2.2.1 _ mX12_even_0_8) (Nat.le_of_ble_eq_true rfl) (Nat.le_of_ble_eq_true rfl) (Nat.zero_le _) (Nat.zero_le _) dX12_even_146 ?_
          refine va_mmax C.1 C.2.1 (C.2.2.1.trans hl.1.symm) C.2.2.2.2.1 (C.2.2.2.2.2.1 _ mX12_even_0_9) (C.2.2.2.2.2.1 _ mX12_even_0_10) (C.2.2.2.2.2.1 _ mX12_even_0_7) (C.2.2.2.2.2.1 _ mX12_even_0_11) (Nat.le_of_ble_eq_true rfl) (Nat.le_of_ble_eq_true rfl) (Nat.zero_le _) (Nat.zero_le _) dX12_even_149 ?_
          refine lv_topi (fun v20 hv21 => ?_)
          replace h := lt_e hv21 h
          try dsimp only at h
          refine lv_istore_n (lv' := [(3, .int v20), (0, .ref (ad 0)), (4, .int z4)]) C.1 C.2.1 dX12_even_152 rfl hl (by decide) rfl (fun ls hl => ?_)
          replace hl := lv_sub (l' := [(0, .ref (ad 0)), (3, .int v20), (4, .int z4)]) hl [1, 0, 2] rfl
          exact wGX12_even_0_153 C hK hJ ih _ _ _ _ _ _ h hP hS hl
set_option maxHeartbeats 4000000 in
set_option maxRecDepth 100000 in
theorem wGX12_even_0_68 {p : Program} {l : Launch} {e : Env} {s : State} {m : MethodId} {args : Array Value} {below : List Frame} {meth : Method} {c : Code} {D : va_G} {cy : Nat → ClassId} {ad st : Nat → Nat} (C : Cx RX12 cX12_even 5 (some .int) wsX12_even p s m args meth c) (hK : Kx D [(cy 0, .int), (cy 1, .long), (cy 2, .boolean), (cy 3, .byte), (cy 4, .object "HissHorn$Text")] st s) (hJ : JM ad) {r : Int32} {u' : SX} {k45 : Int32 → Int32 → SX → Option (Int32 × SX)} (hk45 : ∀ (z3 : Int32) (z4 : Int32) (u : SX) (H : Heap) (locs : List Loc) (ls : Array Slot), k45 z3 z4 u = some (r, u') → va_P D vwCl (VM cy ad st u) H → va_S (Ax (AM ad) s.heap.size) s.heap H locs → lv_has ls 5 [(0, .ref (ad 0)), (3, .int z3), (4, .int z4)] → W p l e rmX12_even_0 s m args below meth c H locs 0 0 (MQ below (Qi D (VM cy ad st) (AM ad) s.heap.size r u') args s 0 0 (Ax (AM ad) s.heap.size)) (F0 m 45 ls [])) (z4 : Int32) (y0 : Int32) (y1 : Int32) (u : SX) (H : Heap) (locs : List Loc) (ls : Array Slot) (h : GX12_even_0_68 k45 z4 y0 y1 u = some (r, u')) (hP : va_P D vwCl (VM cy ad st u) H) (hS : va_S (Ax (AM ad) s.heap.size) s.heap H locs) (hl : lv_has ls 5 [(0, .ref (ad 0)), (4, .int z4)]) : W p l e rmX12_even_0 s m args below meth c H locs 0 0 (MQ below (Qi D (VM cy ad st) (AM ad) s.heap.size r u') args s 0 0 (Ax (AM ad) s.heap.size)) (F0 m 68 ls [.int y0, .int y1]) := by
  unfold GX12_even_0_68 at h
  refine lv_iadd C.1 C.2.1 dX12_even_68 ?_
  refine lv_topi (fun v23 hv24 => ?_)
  replace h := lt_e hv24 h
  try dsimp only at h
  refine lv_istore_n (lv' := [(3, .int v23), (0, .ref (ad 0)), (4, .int z4)]) C.1 C.2.1 dX12_even_69 rfl hl (by decide) rfl (fun ls hl => ?_)
  replace hl := lv_sub (l' := [(0, .ref (ad 0)), (3, .int v23), (4, .int z4)]) hl [1, 0, 2] rfl
  refine lv_iinc (v := z4 + 1) (lv' := [(4, .int (z4 + 1)), (0, .ref (ad 0)), (3, .int v23)]) C.1 C.2.1 dX12_even_70 hl (k := 2) rfl rfl (by decide) rfl (fun ls hl => ?_)
  replace hl := lv_sub (l' := [(0, .ref (ad 0)), (3, .int v23), (4, .int (z4 + 1))]) hl [1, 2, 0] rfl
  refine lv_goto (tgt := 45) C.1 C.2.1 dX12_even_73 (by decide) ?_
  exact hk45 _ _ _ _ _ _ h hP hS hl
set_option maxHeartbeats 4000000 in
set_option maxRecDepth 100000 in
theorem wLX12_even_0_45 {p : Program} {l : Launch} {e : Env} {s : State} {m : MethodId} {args : Array Value} {below : List Frame} {meth : Method} {c : Code} {D : va_G} {cy : Nat → ClassId} {ad st : Nat → Nat} (C : Cx RX12 cX12_even 5 (some .int) wsX12_even p s m args meth c) (hK : Kx D [(cy 0, .int), (cy 1, .long), (cy 2, .boolean), (cy 3, .byte), (cy 4, .object "HissHorn$Text")] st s) (hJ : JM ad) {r : Int32} {u' : SX} {k76 : Int32 → SX → Option (Int32 × SX)} (hk76 : ∀ (z3 : Int32) (u : SX) (H : Heap) (locs : List Loc) (ls : Array Slot), k76 z3 u = some (r, u') → va_P D vwCl (VM cy ad st u) H → va_S (Ax (AM ad) s.heap.size) s.heap H locs → lv_has ls 5 [(0, .ref (ad 0)), (3, .int z3)] → W p l e rmX12_even_0 s m args below meth c H locs 0 0 (MQ below (Qi D (VM cy ad st) (AM ad) s.heap.size r u') args s 0 0 (Ax (AM ad) s.heap.size)) (F0 m 76 ls [])) : ∀ (n : Nat) (z3 : Int32) (z4 : Int32) (u : SX) (H : Heap) (locs : List Loc) (ls : Array Slot), LX12_even_0_45 k76 n z3 z4 u = some (r, u') → va_P D vwCl (VM cy ad st u) H → va_S (Ax (AM ad) s.heap.size) s.heap H locs → lv_has ls 5 [(0, .ref (ad 0)), (3, .int z3), (4, .int z4)] → W p l e rmX12_even_0 s m args below meth c H locs 0 0 (MQ below (Qi D (VM cy ad st) (AM ad) s.heap.size r u') args s 0 0 (Ax (AM ad) s.heap.size)) (F0 m 45 ls []) := by
  intro n
  induction n with
  | zero =>
    intro z3 z4 u H locs ls h
    exact absurd h (by intro q; cases q)
  | succ n ih =>
    intro z3 z4 u H locs ls h hP hS hl
    rw [LX12_even_0_45] at h
    refine lv_iload C.1 C.2.1 dX12_even_45 (lv_at hl 2 rfl) ?_
    refine lv_bipush (v := 16) C.1 C.2.1 dX12_even_47 (by decide) ?_
    refine lv_icmp_ge (tgt := 76) C.1 C.2.1 dX12_even_49 (by decide) (fun c49 => ?_) (fun c49 => ?_)
    · rw [if_pos c49] at h
      exact hk76 _ _ _ _ _ h hP hS (lv_sub hl [0, 1] rfl)
    · rw [if_neg c49] at h
      refine lv_iload_n C.1 C.2.1 dX12_even_52 rfl (lv_at hl 1 rfl) ?_
      refine lv_aload_n C.1 C.2.1 dX12_even_53 rfl (lv_at hl 0 rfl) ?_
      refine gM_0_many C hX12_even_0_X12 hK hP mX12_even_0_4 dX12_even_54 ?_
      refine lv_iload C.1 C.2.1 dX12_even_57 (lv_at hl 2 rfl) ?_
      obtain ⟨hg22, h⟩ := gd_some h
      refine lM_23 C hK hP hg22 dX12_even_59 ?_
      refine lv_if_le (tgt := 67) C.1 C.2.1 dX12_even_60 (by decide) (fun c60 => ?_) (fun c60 => ?_)
      · rw [if_pos c60] at h
        refine lv_iconst (v := 0) C.1 C.2.1 dX12_even_67 (by decide) ?_
        exact wGX12_even_0_68 C hK hJ ih _ _ _ _ _ _ _ h hP hS (lv_sub hl [0, 2] rfl)
      · rw [if_neg c60] at h
        refine lv_iconst (v := 1) C.1 C.2.1 dX12_even_63 (by decide) ?_
        refine lv_goto (tgt := 68) C.1 C.2.1 dX12_even_64 (by decide) ?_
        exact wGX12_even_0_68 C hK hJ ih _ _ _ _ _ _ _ h hP hS (lv_sub hl [0, 2] rfl)
set_option maxHeartbeats 4000000 in
set_option maxRecDepth 100000 in
theorem wGX12_even_0_76 {p : Program} {l : Launch} {e : Env} {s : State} {m : MethodId} {args : Array Value} {below : List Frame} {meth : Method} {c : Code} {D : va_G} {cy : Nat → ClassId} {ad st : Nat → Nat} (C : Cx RX12 cX12_even 5 (some .int) wsX12_even p s m args meth c) (hK : Kx D [(cy 0, .int), (cy 1, .long), (cy 2, .boolean), (cy 3, .byte), (cy 4, .object "HissHorn$Text")] st s) (hJ : JM ad) {r : Int32} {u' : SX}   (z3 : Int32) (u : SX) (H : Heap) (locs : List Loc) (ls : Array Slot) (h : GX12_even_0_76 z3 u = some (r, u')) (hP : va_P D vwCl (VM cy ad st u) H) (hS : va_S (Ax (AM ad) s.heap.size) s.heap H locs) (hl : lv_has ls 5 [(0, .ref (ad 0)), (3, .int z3)]) : W p l e rmX12_even_0 s m args below meth c H locs 0 0 (MQ below (Qi D (VM cy ad st) (AM ad) s.heap.size r u') args s 0 0 (Ax (AM ad) s.heap.size)) (F0 m 76 ls []) := by
  unfold GX12_even_0_76 at h
  refine lv_iload_n C.1 C.2.1 dX12_even_76 rfl (lv_at hl 1 rfl) ?_
  refine lv_iconst (v := 2) C.1 C.2.1 dX12_even_77 (by decide) ?_
  refine lv_icmp_ge (tgt := 87) C.1 C.2.1 dX12_even_78 (by decide) (fun c78 => ?_) (fun c78 => ?_)
  · rw [if_pos c78] at h
    refine lv_aload_n C.1 C.2.1 dX12_even_87 rfl (lv_at hl 0 rfl) ?_
    obtain ⟨⟨r25, u26⟩, hc27, h⟩ := bd_some h
    try dsimp only at h
    refine cg_i (As := []) (rest := []) C hK hP hS (metX12_apart_0 l D cy ad st hJ _  hc27) (cwV 0 C.2.2.2.2.2.1 gX12_even_X12_apart rfl rfl rfl (by decide +kernel) ⟨(Nat.le_of_ble_eq_true rfl), (Nat.le_of_ble_eq_true rfl)⟩) 0 12 rfl rfl rfl hl.1 rfl (Nat.le_of_ble_eq_true rfl) dX12_even_88 ⟨Nat.zero_le _, Nat.zero_le _⟩ (fun H locs hP hS => ?_)
    cases h
    exact rt_i C hP hS dX12_even_91
  · rw [if_neg c78] at h
    refine lv_ldcw C.1 C.2.1 C.2.2.2.2.1 (C.2.2.2.2.2.1 _ mX12_even_0_3) dX12_even_81 ?_
    refine lv_goto (tgt := 91) C.1 C.2.1 dX12_even_84 (by decide) ?_
    cases h
    exact rt_i C hP hS dX12_even_91
set_option maxHeartbeats 4000000 in
set_option maxRecDepth 100000 in
theorem wX12_even_0 {p : Program} {l : Launch} {e : Env} {s : State} {m : MethodId} {args : Array Value} {below : List Frame} {meth : Method} {c : Code} {D : va_G} {cy : Nat → ClassId} {ad st : Nat → Nat} (C : Cx RX12 cX12_even 5 (some .int) wsX12_even p s m args meth c) (hK : Kx D [(cy 0, .int), (cy 1, .long), (cy 2, .boolean), (cy 3, .byte), (cy 4, .object "HissHorn$Text")] st s) (hJ : JM ad) (x1 : Int32) (x2 : Int32) {u : SX} {r : Int32} {u' : SX} {H : Heap} {locs : List Loc} {ls : Array Slot} (h : fX12_even_0 x1 x2 u = some (r, u')) (hP : va_P D vwCl (VM cy ad st u) H) (hS : va_S (Ax (AM ad) s.heap.size) s.heap H locs) (hl : lv_has ls 5 [(0, .ref (ad 0)), (1, .int x1), (2, .int x2)]) : W p l e rmX12_even_0 s m args below meth c H locs 0 0 (MQ below (Qi D (VM cy ad st) (AM ad) s.heap.size r u') args s 0 0 (Ax (AM ad) s.heap.size)) (F0 m 0 ls []) := by
  unfold fX12_even_0 at h
  refine lv_aload_n C.1 C.2.1 dX12_even_0 rfl (lv_at hl 0 rfl) ?_
  refine lv_iconst (v := 0) C.1 C.2.1 dX12_even_1 (by decide) ?_
  refine pM_0_thrown C hX12_even_0_X12 hK hP hJ hS mX12_even_0_1 dX12_even_2 (fun H locs hP hS => ?_)
  obtain ⟨u1, hu2, h⟩ := lt_some h
  rw [← hu2] at hP
  refine lv_iload_n C.1 C.2.1 dX12_even_5 rfl (lv_at hl 1 rfl) ?_
  refine lv_iconst (v := 0) C.1 C.2.1 dX12_even_6 (by decide) ?_
  refine lv_aload_n C.1 C.2.1 dX12_even_7 rfl (lv_at hl 0 rfl) ?_
  refine gM_0_now C hX12_even_0_X12 hK hP mX12_even_0_2 dX12_even_8 ?_
  obtain ⟨r3, hc5, h⟩ := bd_some h
  refine cs_i (As := [.int x1, .int 0, .int (u1.1 1)]) (rest := []) C hK hP hS (metX12_isIn l D cy st _ x1 0 (u1.1 1) hc5) (va_cwS 3 C.2.2.2.2.2.1 gX12_even_X12_isIn rfl rfl rfl (by decide +kernel) ⟨(Nat.le_of_ble_eq_true rfl), (Nat.le_of_ble_eq_true rfl)⟩) rfl hl.1 rfl (Nat.le_of_ble_eq_true rfl) dX12_even_11 ⟨Nat.zero_le _, Nat.zero_le _⟩ (fun H locs hP hS => ?_)
  refine lv_if_eq (tgt := 26) C.1 C.2.1 dX12_even_14 (by decide) (fun c14 => ?_) (fun c14 => ?_)
  · rw [if_pos c14] at h
    refine lv_ldcw C.1 C.2.1 C.2.2.2.2.1 (C.2.2.2.2.2.1 _ mX12_even_0_3) dX12_even_26 ?_
    cases h
    exact rt_i C hP hS dX12_even_29
  · rw [if_neg c14] at h
    refine lv_iload_n C.1 C.2.1 dX12_even_17 rfl (lv_at hl 2 rfl) ?_
    refine lv_iconst (v := 0) C.1 C.2.1 dX12_even_18 (by decide) ?_
    refine lv_iconst (v := 1) C.1 C.2.1 dX12_even_19 (by decide) ?_
    obtain ⟨r6, hc8, h⟩ := bd_some h
    refine cs_i (As := [.int x2, .int 0, .int 1]) (rest := []) C hK hP hS (metX12_isIn l D cy st _ x2 0 1 hc8) (va_cwS 3 C.2.2.2.2.2.1 gX12_even_X12_isIn rfl rfl rfl (by decide +kernel) ⟨(Nat.le_of_ble_eq_true rfl), (Nat.le_of_ble_eq_true rfl)⟩) rfl hl.1 rfl (Nat.le_of_ble_eq_true rfl) dX12_even_20 ⟨Nat.zero_le _, Nat.zero_le _⟩ (fun H locs hP hS => ?_)
    refine lv_if_ne (tgt := 30) C.1 C.2.1 dX12_even_23 (by decide) (fun c23 => ?_) (fun c23 => ?_)
    · rw [if_neg c23] at h
      refine lv_aload_n C.1 C.2.1 dX12_even_30 rfl (lv_at hl 0 rfl) ?_
      refine lv_iload_n C.1 C.2.1 dX12_even_31 rfl (lv_at hl 1 rfl) ?_
      refine lv_iconst (v := 0) C.1 C.2.1 dX12_even_32 (by decide) ?_
      obtain ⟨⟨r9, u10⟩, hc11, h⟩ := bd_some h
      try dsimp only at h
      refine cg_v (As := [.int x1, .int 0]) (rest := []) C hK hP hS (metX12_layMeans_0 l D cy ad st hJ _ x1 0 hc11) (cwV 2 C.2.2.2.2.2.1 gX12_even_X12_layMeans rfl rfl rfl (by decide +kernel) ⟨(Nat.le_of_ble_eq_true rfl), (Nat.le_of_ble_eq_true rfl)⟩) 0 12 rfl rfl rfl hl.1 rfl (Nat.le_of_ble_eq_true rfl) dX12_even_33 ⟨Nat.zero_le _, Nat.zero_le _⟩ (fun H locs hP hS => ?_)
      refine lv_iload_n C.1 C.2.1 dX12_even_36 rfl (lv_at hl 2 rfl) ?_
      refine lv_if_ne (tgt := 92) C.1 C.2.1 dX12_even_37 (by decide) (fun c37 => ?_) (fun c37 => ?_)
      · rw [if_neg c37] at h
        refine lv_ldcw C.1 C.2.1 C.2.2.2.2.1 (C.2.2.2.2.2.1 _ mX12_even_0_3) dX12_even_92 ?_
        refine lv_istore_n (lv' := [(3, .int (-100000000)), (0, .ref (ad 0)), (1, .int x1), (2, .int x2)]) C.1 C.2.1 dX12_even_95 rfl hl (by decide) rfl (fun ls hl => ?_)
        replace hl := lv_sub (l' := [(0, .ref (ad 0)), (1, .int x1), (2, .int x2), (3, .int (-100000000))]) hl [1, 2, 3, 0] rfl
        refine lv_iconst (v := 0) C.1 C.2.1 dX12_even_96 (by decide) ?_
        refine lv_istore (lv' := [(4, .int 0), (0, .ref (ad 0)), (1, .int x1), (2, .int x2), (3, .int (-100000000))]) C.1 C.2.1 dX12_even_97 hl (by decide) rfl (fun ls hl => ?_)
        replace hl := lv_sub (l' := [(0, .ref (ad 0)), (1, .int x1), (2, .int x2), (3, .int (-100000000)), (4, .int 0)]) hl [1, 2, 3, 4, 0] rfl
        exact wLX12_even_0_99 C hK hJ  5000 _ _ _ _ _ _ h hP hS (lv_sub hl [0, 3, 4] rfl)
      · rw [if_pos c37] at h
        refine lv_iconst (v := 0) C.1 C.2.1 dX12_even_40 (by decide) ?_
        refine lv_istore_n (lv' := [(3, .int 0), (0, .ref (ad 0)), (1, .int x1), (2, .int x2)]) C.1 C.2.1 dX12_even_41 rfl hl (by decide) rfl (fun ls hl => ?_)
        replace hl := lv_sub (l' := [(0, .ref (ad 0)), (1, .int x1), (2, .int x2), (3, .int 0)]) hl [1, 2, 3, 0] rfl
        refine lv_iconst (v := 0) C.1 C.2.1 dX12_even_42 (by decide) ?_
        refine lv_istore (lv' := [(4, .int 0), (0, .ref (ad 0)), (1, .int x1), (2, .int x2), (3, .int 0)]) C.1 C.2.1 dX12_even_43 hl (by decide) rfl (fun ls hl => ?_)
        replace hl := lv_sub (l' := [(0, .ref (ad 0)), (1, .int x1), (2, .int x2), (3, .int 0), (4, .int 0)]) hl [1, 2, 3, 4, 0] rfl
        exact wLX12_even_0_45 C hK hJ (wGX12_even_0_76 C hK hJ ) 5000 _ _ _ _ _ _ h hP hS (lv_sub hl [0, 3, 4] rfl)
    · rw [if_pos c23] at h
      refine lv_ldcw C.1 C.2.1 C.2.2.2.2.1 (C.2.2.2.2.2.1 _ mX12_even_0_3) dX12_even_26 ?_
      cases h
      exact rt_i C hP hS dX12_even_29
theorem metX12_even_0 (l : Launch) (D : va_G) (cy : Nat → ClassId) (ad st : Nat → Nat) (hJ : JM ad) (sz : Nat) (x1 : Int32) (x2 : Int32) {u : SX} {r : Int32} {u' : SX} (h : fX12_even_0 x1 x2 u = some (r, u')) : Met l yX12_even wsX12_even rmX12_even_0 (va_Pc [.ref (ad 0), .int x1, .int x2] (Px D [(cy 0, .int), (cy 1, .long), (cy 2, .boolean), (cy 3, .byte), (cy 4, .object "HissHorn$Text")] st (VM cy ad st) sz u)) (Qi D (VM cy ad st) (AM ad) sz r u') 0 0 (Ax (AM ad) sz) := by
  refine Met.ofW (cc := cX12_even) (maxL := 5) (ret := (some .int)) (by decide) rfl ?_
  intro p e s m args below meth c s₁ B hml hv
  obtain ⟨rfl, hsz, hP, hK⟩ := hv
  subst hsz
  have C : Cx RX12 cX12_even 5 (some .int) wsX12_even p s m _ meth c := ⟨B.exec, B.bytes, hml, B.returns, findClass_of_methodNamed B.named, atoms_spec (ws := wsX12_even) B.pre, B.notSynchronized⟩
  have hl := lv_entry ([.ref (ad 0), .int x1, .int x2]) (n := 5) (Nat.le_of_ble_eq_true rfl)
  rw [lg_entry_eq]
  exact wX12_even_0 C hK hJ x1 x2 h hP va_S.rf hl
