theorem metX12_part_0 (l : Launch) (D : va_G) (cy : Nat → ClassId) (ad st : Nat → Nat) (hJ : JM ad st) {rc : Nat → Int32 → Int32 → SX → Option (Int32 × SX)} {dd : Nat} (hrc : hRX12conditiong l D cy ad st rc dd) (sz : Nat) (x1 : Int32) (x2 : Int32) {u : SX} {r : Int32} {u' : SX} (h : fX12_part_0 rc x1 x2 u = some (r, u')) : Met l yX12_part wsX12_part (rmX12conditiong (dd + 1)) (va_Pc [.ref (ad 0), .int x1, .int x2] (Px D [(cy 0, .int), (cy 1, .long), (cy 2, .boolean), (cy 3, .byte), (cy 4, .object "HissHorn$Text")] st (VM cy ad st) sz u)) (Qi D (VM cy ad st) (AM ad) sz r u') 0 0 (Ax (AM ad) sz) := by
  refine Met.ofW (cc := cX12_part) (maxL := 5) (ret := (some .boolean)) (by decide) rfl ?_
  intro p e s m args below meth c s₁ B hml hv
  obtain ⟨rfl, hsz, hP, hK⟩ := hv
  subst hsz
  have C : Cx RX12 cX12_part 5 (some .boolean) wsX12_part p s m _ meth c := ⟨B.exec, B.bytes, hml, B.returns, findClass_of_methodNamed B.named, atoms_spec (ws := wsX12_part) B.pre, B.notSynchronized⟩
  have hl := lv_entry ([.ref (ad 0), .int x1, .int x2]) (n := 5) (Nat.le_of_ble_eq_true rfl)
  rw [lg_entry_eq]
  exact wX12_part_0 C hK hJ hrc x1 x2 h hP va_S.rf hl

theorem dX12_unit_0 : decode cX12_unit 0 = .ok (.aload_n 0, 1) := by decide +kernel
set_option maxRecDepth 20000 in
theorem ggX12_unit_X12_look : GoodIn wsX12_unit wsX12_look := goodIn_r _ [6, 7, 8, 9, 10, 160, 161, 162, 163, 164, 165, 166, 167, 168, 169, 170, 171, 172, 173, 174, 175, 176, 177, 178, 179, 180, 181, 182, 183, 184, 185, 186, 187, 188, 189, 190, 191, 192, 193, 194, 195, 196, 197, 198, 199, 200, 201, 202, 203, 204, 205, 206, 207, 208, 209, 210, 211, 212, 213, 214, 215, 216, 217, 218, 219, 220, 221, 222, 223, 224, 225, 226, 227, 228] rfl (by decide +kernel)
set_option maxRecDepth 20000 in
theorem gX12_unit_X12_look : GoodIn wsX12_unit (wsV RX12 192 RX12 yX12_look wsX12_look) := goodIn_app (goodIn_of _ (by decide +kernel)) ggX12_unit_X12_look
theorem dX12_unit_1 : decode cX12_unit 1 = .ok (.invokevirtual 192, 3) := by decide +kernel
theorem dX12_unit_4 : decode cX12_unit 4 = .ok (.istore_n 1, 1) := by decide +kernel
theorem dX12_unit_5 : decode cX12_unit 5 = .ok (.iload_n 1, 1) := by decide +kernel
theorem dX12_unit_6 : decode cX12_unit 6 = .ok (.bipush 33, 2) := by decide +kernel
theorem dX12_unit_8 : decode cX12_unit 8 = .ok (.if_icmp .ne 37, 3) := by decide +kernel
theorem dX12_unit_45 : decode cX12_unit 45 = .ok (.iload_n 1, 1) := by decide +kernel
theorem dX12_unit_46 : decode cX12_unit 46 = .ok (.bipush 40, 2) := by decide +kernel
theorem dX12_unit_48 : decode cX12_unit 48 = .ok (.if_icmp .ne 42, 3) := by decide +kernel
theorem dX12_unit_90 : decode cX12_unit 90 = .ok (.aload_n 0, 1) := by decide +kernel
theorem dX12_unit_91 : decode cX12_unit 91 = .ok (.iconst 0, 1) := by decide +kernel
theorem dX12_unit_92 : decode cX12_unit 92 = .ok (.iconst 0, 1) := by decide +kernel
set_option maxRecDepth 20000 in
theorem ggX12_unit_X12_compares : GoodIn wsX12_unit wsX12_compares := goodIn_r _ [33, 19, 7, 34, 35, 36, 5, 37, 38, 39, 40, 2, 3, 4, 6, 8, 9, 10, 41, 42, 43, 44, 45, 46, 47, 48, 49, 50, 51, 52, 53, 54, 55, 1, 56, 57, 58, 59, 60, 61, 62, 63, 64, 65, 66, 67, 68, 69, 70, 71, 72, 73, 74, 75, 76, 77, 78, 79, 80, 81, 82, 83, 84, 85, 86, 87, 88, 89, 90, 91, 92, 93, 94, 95, 96, 97, 98, 99, 100, 101, 102, 103, 104, 105, 106, 107, 108, 109, 110, 111, 112, 113, 114, 115, 116, 117, 118, 119, 120, 121, 122, 123, 124, 125, 126, 127, 128, 129, 130, 131, 132, 133, 134, 135, 136, 137, 138, 139, 140, 141, 142, 143, 11, 12, 13, 14, 15, 16, 17, 18, 26, 27, 28, 29, 144, 145, 146, 147, 148, 149, 150, 151, 152, 153, 154, 160, 161, 162, 163, 164, 165, 166, 167, 168, 169, 170, 171, 172, 173, 174, 175, 176, 177, 178, 179, 180, 181, 182, 183, 184, 185, 186, 187, 188, 189, 190, 191, 192, 193, 194, 195, 196, 197, 198, 199, 200, 201, 202, 203, 204, 205, 206, 207, 208, 209, 210, 211, 212, 213, 214, 215, 216, 217, 218, 219, 220, 221, 222, 223, 224, 225, 226, 227, 228] rfl (by decide +kernel)
set_option maxRecDepth 20000 in
theorem gX12_unit_X12_compares : GoodIn wsX12_unit (wsV RX12 247 RX12 yX12_compares wsX12_compares) := goodIn_app (goodIn_of _ (by decide +kernel)) ggX12_unit_X12_compares
theorem dX12_unit_93 : decode cX12_unit 93 = .ok (.invokevirtual 247, 3) := by decide +kernel
theorem dX12_unit_96 : decode cX12_unit 96 = .ok (.ireturn, 1) := by decide +kernel
theorem dX12_unit_51 : decode cX12_unit 51 = .ok (.aload_n 0, 1) := by decide +kernel
set_option maxRecDepth 20000 in
theorem ggX12_unit_X12_goesIn : GoodIn wsX12_unit wsX12_goesIn := goodIn_r _ [14, 1, 7, 15, 16, 17, 5, 18, 19, 160, 161, 162, 163, 164, 165, 166, 167, 168, 169, 170, 171, 172, 173, 174, 175, 176, 177, 178, 179, 180, 181, 182, 183, 184, 185, 186, 187, 188, 189, 190, 191, 192, 193, 194, 195, 196, 197, 198, 199, 200, 201, 202, 203, 204, 205, 206, 207, 208, 209, 210, 211, 212, 213, 214, 215, 216, 217, 218, 219, 220, 221, 222, 223, 224, 225, 226, 227, 228] rfl (by decide +kernel)
set_option maxRecDepth 20000 in
theorem gX12_unit_X12_goesIn : GoodIn wsX12_unit (wsV RX12 214 RX12 yX12_goesIn wsX12_goesIn) := goodIn_app (goodIn_of _ (by decide +kernel)) ggX12_unit_X12_goesIn
theorem dX12_unit_52 : decode cX12_unit 52 = .ok (.invokevirtual 214, 3) := by decide +kernel
theorem dX12_unit_55 : decode cX12_unit 55 = .ok (.ifCond .ne 5, 3) := by decide +kernel
theorem dX12_unit_60 : decode cX12_unit 60 = .ok (.aload_n 0, 1) := by decide +kernel
theorem dX12_unit_61 : decode cX12_unit 61 = .ok (.iconst 0, 1) := by decide +kernel
theorem dX12_unit_62 : decode cX12_unit 62 = .ok (.iconst 0, 1) := by decide +kernel
set_option maxRecDepth 20000 in
theorem ggX12_unit_X12_condition : GoodIn wsX12_unit wsX12_condition := goodIn_r _ [155, 19, 7, 156, 157, 158, 5, 2, 3, 4, 6, 8, 9, 10, 159, 30, 31, 32, 33, 34, 35, 36, 37, 38, 39, 40, 41, 42, 43, 44, 45, 46, 47, 48, 49, 50, 51, 52, 53, 54, 55, 1, 56, 57, 58, 59, 60, 61, 62, 63, 64, 65, 66, 67, 68, 69, 70, 71, 72, 73, 74, 75, 76, 77, 78, 79, 80, 81, 82, 83, 84, 85, 86, 87, 88, 89, 90, 91, 92, 93, 94, 95, 96, 97, 98, 99, 100, 101, 102, 103, 104, 105, 106, 107, 108, 109, 110, 111, 112, 113, 114, 115, 116, 117, 118, 119, 120, 121, 122, 123, 124, 125, 126, 127, 128, 129, 130, 131, 132, 133, 134, 135, 136, 137, 138, 139, 140, 141, 142, 143, 11, 12, 13, 14, 15, 16, 17, 18, 26, 27, 28, 29, 144, 145, 146, 147, 148, 149, 150, 151, 152, 153, 154, 20, 21, 22, 0, 23, 24, 25, 160, 161, 162, 163, 164, 165, 166, 167, 168, 169, 170, 171, 172, 173, 174, 175, 176, 177, 178, 179, 180, 181, 182, 183, 184, 185, 186, 187, 188, 189, 190, 191, 192, 193, 194, 195, 196, 197, 198, 199, 200, 201, 202, 203, 204, 205, 206, 207, 208, 209, 210, 211, 212, 213, 214, 215, 216, 217, 218, 219, 220, 221, 222, 223, 224, 225, 226, 227, 228] rfl (by decide +kernel)
set_option maxRecDepth 20000 in
theorem gX12_unit_X12_condition : GoodIn wsX12_unit (wsV RX12 243 RX12 yX12_condition wsX12_condition) := goodIn_app (goodIn_of _ (by decide +kernel)) ggX12_unit_X12_condition
theorem dX12_unit_63 : decode cX12_unit 63 = .ok (.invokevirtual 243, 3) := by decide +kernel
theorem dX12_unit_66 : decode cX12_unit 66 = .ok (.istore_n 2, 1) := by decide +kernel
theorem dX12_unit_67 : decode cX12_unit 67 = .ok (.aload_n 0, 1) := by decide +kernel
theorem dX12_unit_68 : decode cX12_unit 68 = .ok (.bipush 41, 2) := by decide +kernel
set_option maxRecDepth 20000 in
theorem ggX12_unit_X12_takes : GoodIn wsX12_unit wsX12_takes := goodIn_r _ [29, 19, 7, 2, 3, 4, 5, 6, 8, 9, 10, 15, 16, 17, 18, 160, 161, 162, 163, 164, 165, 166, 167, 168, 169, 170, 171, 172, 173, 174, 175, 176, 177, 178, 179, 180, 181, 182, 183, 184, 185, 186, 187, 188, 189, 190, 191, 192, 193, 194, 195, 196, 197, 198, 199, 200, 201, 202, 203, 204, 205, 206, 207, 208, 209, 210, 211, 212, 213, 214, 215, 216, 217, 218, 219, 220, 221, 222, 223, 224, 225, 226, 227, 228] rfl (by decide +kernel)
set_option maxRecDepth 20000 in
theorem gX12_unit_X12_takes : GoodIn wsX12_unit (wsV RX12 220 RX12 yX12_takes wsX12_takes) := goodIn_app (goodIn_of _ (by decide +kernel)) ggX12_unit_X12_takes
theorem dX12_unit_70 : decode cX12_unit 70 = .ok (.invokevirtual 220, 3) := by decide +kernel
theorem dX12_unit_73 : decode cX12_unit 73 = .ok (.ifCond .ne 5, 3) := by decide +kernel
theorem dX12_unit_78 : decode cX12_unit 78 = .ok (.aload_n 0, 1) := by decide +kernel
theorem dX12_unit_79 : decode cX12_unit 79 = .ok (.dup, 1) := by decide +kernel
theorem dX12_unit_80 : decode cX12_unit 80 = .ok (.getfield 185, 3) := by decide +kernel
theorem dX12_unit_83 : decode cX12_unit 83 = .ok (.iconst 1, 1) := by decide +kernel
theorem dX12_unit_84 : decode cX12_unit 84 = .ok (.isub, 1) := by decide +kernel
theorem dX12_unit_85 : decode cX12_unit 85 = .ok (.putfield 185, 3) := by decide +kernel
theorem dX12_unit_88 : decode cX12_unit 88 = .ok (.iload_n 2, 1) := by decide +kernel
theorem dX12_unit_89 : decode cX12_unit 89 = .ok (.ireturn, 1) := by decide +kernel
theorem dX12_unit_76 : decode cX12_unit 76 = .ok (.iconst 0, 1) := by decide +kernel
theorem dX12_unit_77 : decode cX12_unit 77 = .ok (.ireturn, 1) := by decide +kernel
theorem dX12_unit_58 : decode cX12_unit 58 = .ok (.iconst 0, 1) := by decide +kernel
theorem dX12_unit_59 : decode cX12_unit 59 = .ok (.ireturn, 1) := by decide +kernel
theorem dX12_unit_11 : decode cX12_unit 11 = .ok (.aload_n 0, 1) := by decide +kernel
theorem dX12_unit_12 : decode cX12_unit 12 = .ok (.invokevirtual 214, 3) := by decide +kernel
theorem dX12_unit_15 : decode cX12_unit 15 = .ok (.ifCond .ne 5, 3) := by decide +kernel
theorem dX12_unit_20 : decode cX12_unit 20 = .ok (.aload_n 0, 1) := by decide +kernel
set_option maxRecDepth 20000 in
theorem ggX12_unit_X12_unit : GoodIn wsX12_unit wsX12_unit := goodIn_r _ [0, 1, 2, 3, 4, 5, 6, 7, 8, 9, 10, 11, 12, 13, 14, 15, 16, 17, 18, 19, 20, 21, 22, 23, 24, 25, 26, 27, 28, 29, 30, 31, 32, 33, 34, 35, 36, 37, 38, 39, 40, 41, 42, 43, 44, 45, 46, 47, 48, 49, 50, 51, 52, 53, 54, 55, 56, 57, 58, 59, 60, 61, 62, 63, 64, 65, 66, 67, 68, 69, 70, 71, 72, 73, 74, 75, 76, 77, 78, 79, 80, 81, 82, 83, 84, 85, 86, 87, 88, 89, 90, 91, 92, 93, 94, 95, 96, 97, 98, 99, 100, 101, 102, 103, 104, 105, 106, 107, 108, 109, 110, 111, 112, 113, 114, 115, 116, 117, 118, 119, 120, 121, 122, 123, 124, 125, 126, 127, 128, 129, 130, 131, 132, 133, 134, 135, 136, 137, 138, 139, 140, 141, 142, 143, 144, 145, 146, 147, 148, 149, 150, 151, 152, 153, 154, 155, 156, 157, 158, 159, 160, 161, 162, 163, 164, 165, 166, 167, 168, 169, 170, 171, 172, 173, 174, 175, 176, 177, 178, 179, 180, 181, 182, 183, 184, 185, 186, 187, 188, 189, 190, 191, 192, 193, 194, 195, 196, 197, 198, 199, 200, 201, 202, 203, 204, 205, 206, 207, 208, 209, 210, 211, 212, 213, 214, 215, 216, 217, 218, 219, 220, 221, 222, 223, 224, 225, 226, 227, 228] rfl (by decide +kernel)
set_option maxRecDepth 20000 in
theorem gX12_unit_X12_unit : GoodIn wsX12_unit (wsV RX12 240 RX12 yX12_unit wsX12_unit) := goodIn_app (goodIn_of _ (by decide +kernel)) ggX12_unit_X12_unit
theorem dX12_unit_21 : decode cX12_unit 21 = .ok (.invokevirtual 240, 3) := by decide +kernel
theorem dX12_unit_24 : decode cX12_unit 24 = .ok (.istore_n 2, 1) := by decide +kernel
theorem dX12_unit_25 : decode cX12_unit 25 = .ok (.aload_n 0, 1) := by decide +kernel
theorem dX12_unit_26 : decode cX12_unit 26 = .ok (.dup, 1) := by decide +kernel
theorem dX12_unit_27 : decode cX12_unit 27 = .ok (.getfield 185, 3) := by decide +kernel
theorem dX12_unit_30 : decode cX12_unit 30 = .ok (.iconst 1, 1) := by decide +kernel
theorem dX12_unit_31 : decode cX12_unit 31 = .ok (.isub, 1) := by decide +kernel
theorem dX12_unit_32 : decode cX12_unit 32 = .ok (.putfield 185, 3) := by decide +kernel
theorem dX12_unit_35 : decode cX12_unit 35 = .ok (.iload_n 2, 1) := by decide +kernel
theorem dX12_unit_36 : decode cX12_unit 36 = .ok (.ifCond .ne 7, 3) := by decide +kernel
theorem dX12_unit_43 : decode cX12_unit 43 = .ok (.iconst 0, 1) := by decide +kernel
theorem dX12_unit_44 : decode cX12_unit 44 = .ok (.ireturn, 1) := by decide +kernel
theorem dX12_unit_39 : decode cX12_unit 39 = .ok (.iconst 1, 1) := by decide +kernel
theorem dX12_unit_40 : decode cX12_unit 40 = .ok (.goto 4, 3) := by decide +kernel
theorem dX12_unit_18 : decode cX12_unit 18 = .ok (.iconst 0, 1) := by decide +kernel
theorem dX12_unit_19 : decode cX12_unit 19 = .ok (.ireturn, 1) := by decide +kernel
/-- HissHornModel.unit()Z of cell 0 -/
theorem hX12_unit_0_X12 : ∀ w ∈ u_ws RX12 TX12 69, w ∈ wsX12_unit := fun w h => (List.mem_cons_of_mem _ (List.mem_append_right _ h))
theorem mX12_unit_0_1 : Cond.fieldLink RX12 185 "HissHornModel" "deep" "I" ∈ wsX12_unit := (List.mem_cons_of_mem _ (List.mem_append_left _ (List.mem_append_left _ (List.mem_of_getElem? (i := 0) rfl))))
def fX12_unit_0 (rc : Nat → Int32 → Int32 → SX → Option (Int32 × SX))  (u : SX) : Option (Int32 × SX) := ((fX12_look_0  u).bind fun q => match q with | (r1, u2) => (if r1 = 33 then ((fX12_goesIn_0  u2).bind fun q => match q with | (r22, u23) => (if r22 = 0 then (gd (isB 0) (some (0, u23))) else ((rc 2  0 0 u23).bind fun q => match q with | (r25, u26) => (lt (sI u26 8 ((u26.1 8) - 1)) fun u28 => (if r25 = 0 then (gd (isB 1) (some (1, u28))) else (gd (isB 0) (some (0, u28)))))))) else (if r1 = 40 then ((fX12_goesIn_0  u2).bind fun q => match q with | (r8, u9) => (if r8 = 0 then (gd (isB 0) (some (0, u9))) else ((rc 0 0 0 u9).bind fun q => match q with | (r11, u12) => ((fX12_takes_0 41 u12).bind fun q => match q with | (r14, u15) => (if r14 = 0 then (gd (isB 0) (some (0, u15))) else (lt (sI u15 8 ((u15.1 8) - 1)) fun u17 => (gd (isB r11) (some (r11, u17))))))))) else ((fX12_compares_0 0 0 u2).bind fun q => match q with | (r4, u5) => (gd (isB r4) (some (r4, u5)))))))
set_option maxHeartbeats 4000000 in
set_option maxRecDepth 100000 in
theorem wX12_unit_0 {p : Program} {l : Launch} {e : Env} {s : State} {m : MethodId} {args : Array Value} {below : List Frame} {meth : Method} {c : Code} {D : va_G} {cy : Nat → ClassId} {ad st : Nat → Nat} (C : Cx RX12 cX12_unit 3 (some .boolean) wsX12_unit p s m args meth c) (hK : Ky D [(cy 0, .int), (cy 1, .long), (cy 2, .boolean), (cy 3, .byte), (cy 4, .object "HissHorn$Text")] st s) (hJ : JM ad st) {rc : Nat → Int32 → Int32 → SX → Option (Int32 × SX)} {dd : Nat} (hrc : hRX12conditiong l D cy ad st rc dd)  {u : SX} {r : Int32} {u' : SX} {H : Heap} {locs : List Loc} {ls : Array Slot} (h : fX12_unit_0 rc  u = some (r, u')) (hP : va_P D vwCl (VM cy ad st u) H) (hS : va_S (Ax (AM ad) s.heap.size) s.heap H locs) (hl : lv_has ls 3 [(0, .ref (ad 0))]) : W p l e (rmX12conditiong (dd + 1)) s m args below meth c H locs 0 0 (MQ below (Qi D (VM cy ad st) (AM ad) s.heap.size r u') args s 0 0 (Ax (AM ad) s.heap.size)) (F0 m 0 ls []) := by
  unfold fX12_unit_0 at h
  refine lv_aload_n C.1 C.2.1 dX12_unit_0 rfl (lv_at hl 0 rfl) ?_
  obtain ⟨⟨r1, u2⟩, hc3, h⟩ := bd_some h
  try dsimp only at h
  refine cg_i (As := []) (rest := []) (AM_ge hJ) C hK hP hS (metX12_look_0 l D cy ad st hJ _  hc3) (cwV 0 C.2.2.2.2.2.1 gX12_unit_X12_look rfl rfl rfl (by decide +kernel) ⟨(Nat.le_trans (m := 70) (Nat.le_of_ble_eq_true rfl) (rmX12conditiong_f _)), (Nat.le_trans (m := 4236) (Nat.le_of_ble_eq_true rfl) (rmX12conditiong_l _))⟩) 0 12 rfl rfl rfl hl.1 rfl (Nat.le_of_ble_eq_true rfl) dX12_unit_1 ⟨Nat.zero_le _, Nat.zero_le _⟩ (fun H locs hP hS => ?_)
  refine lv_istore_n (lv' := [(1, .int r1), (0, .ref (ad 0))]) C.1 C.2.1 dX12_unit_4 rfl hl (by decide) rfl (fun ls hl => ?_)
  replace hl := lv_sub (l' := [(0, .ref (ad 0)), (1, .int r1)]) hl [1, 0] rfl
  refine lv_iload_n C.1 C.2.1 dX12_unit_5 rfl (lv_at hl 1 rfl) ?_
  refine lv_bipush (v := 33) C.1 C.2.1 dX12_unit_6 (by decide) ?_
  refine lv_icmp_ne (tgt := 45) C.1 C.2.1 dX12_unit_8 (by decide) (fun c8 => ?_) (fun c8 => ?_)
  · rw [if_neg c8] at h
    refine lv_iload_n C.1 C.2.1 dX12_unit_45 rfl (lv_at hl 1 rfl) ?_
    refine lv_bipush (v := 40) C.1 C.2.1 dX12_unit_46 (by decide) ?_
    refine lv_icmp_ne (tgt := 90) C.1 C.2.1 dX12_unit_48 (by decide) (fun c48 => ?_) (fun c48 => ?_)
    · rw [if_neg c48] at h
      refine lv_aload_n C.1 C.2.1 dX12_unit_90 rfl (lv_at hl 0 rfl) ?_
      refine lv_iconst (v := 0) C.1 C.2.1 dX12_unit_91 (by decide) ?_
      refine lv_iconst (v := 0) C.1 C.2.1 dX12_unit_92 (by decide) ?_
      obtain ⟨⟨r4, u5⟩, hc6, h⟩ := bd_some h
      try dsimp only at h
      refine cg_i (As := [.int 0, .int 0]) (rest := []) (AM_ge hJ) C hK hP hS (metX12_compares_0 l D cy ad st hJ _ 0 0 hc6) (cwV 2 C.2.2.2.2.2.1 gX12_unit_X12_compares rfl rfl rfl (by decide +kernel) ⟨(Nat.le_trans (m := 70) (Nat.le_of_ble_eq_true rfl) (rmX12conditiong_f _)), (Nat.le_trans (m := 4236) (Nat.le_of_ble_eq_true rfl) (rmX12conditiong_l _))⟩) 0 12 rfl rfl rfl hl.1 rfl (Nat.le_of_ble_eq_true rfl) dX12_unit_93 ⟨Nat.zero_le _, Nat.zero_le _⟩ (fun H locs hP hS => ?_)
      obtain ⟨hg7, h⟩ := gd_some h
      cases h
      exact rt_z hg7 C hP hS dX12_unit_96
    · rw [if_pos c48] at h
      refine lv_aload_n C.1 C.2.1 dX12_unit_51 rfl (lv_at hl 0 rfl) ?_
      obtain ⟨⟨r8, u9⟩, hc10, h⟩ := bd_some h
      try dsimp only at h
      refine cg_i (As := []) (rest := []) (AM_ge hJ) C hK hP hS (metX12_goesIn_0 l D cy ad st hJ _  hc10) (cwV 0 C.2.2.2.2.2.1 gX12_unit_X12_goesIn rfl rfl rfl (by decide +kernel) ⟨(Nat.le_trans (m := 70) (Nat.le_of_ble_eq_true rfl) (rmX12conditiong_f _)), (Nat.le_trans (m := 4236) (Nat.le_of_ble_eq_true rfl) (rmX12conditiong_l _))⟩) 0 12 rfl rfl rfl hl.1 rfl (Nat.le_of_ble_eq_true rfl) dX12_unit_52 ⟨Nat.zero_le _, Nat.zero_le _⟩ (fun H locs hP hS => ?_)
      refine lv_if_ne (tgt := 60) C.1 C.2.1 dX12_unit_55 (by decide) (fun c55 => ?_) (fun c55 => ?_)
      · rw [if_neg c55] at h
        refine lv_aload_n C.1 C.2.1 dX12_unit_60 rfl (lv_at hl 0 rfl) ?_
        refine lv_iconst (v := 0) C.1 C.2.1 dX12_unit_61 (by decide) ?_
        refine lv_iconst (v := 0) C.1 C.2.1 dX12_unit_62 (by decide) ?_
        obtain ⟨⟨r11, u12⟩, hc13, h⟩ := bd_some h
        try dsimp only at h
        refine cg_i (As := [.int 0, .int 0]) (rest := []) (AM_ge hJ) C hK hP hS (hrc.1 _ 0 0 _ _ _ hc13) (cwV 2 C.2.2.2.2.2.1 gX12_unit_X12_condition rfl rfl rfl (by decide +kernel) ⟨rmX12conditiong_sf dd, rmX12conditiong_sl dd (k := 8 + (5 + 11)) (Nat.le_of_ble_eq_true rfl)⟩) 0 12 rfl rfl rfl hl.1 rfl (Nat.le_of_ble_eq_true rfl) dX12_unit_63 ⟨Nat.zero_le _, Nat.zero_le _⟩ (fun H locs hP hS => ?_)
        refine lv_istore_n (lv' := [(2, .int r11), (0, .ref (ad 0)), (1, .int r1)]) C.1 C.2.1 dX12_unit_66 rfl hl (by decide) rfl (fun ls hl => ?_)
        replace hl := lv_sub (l' := [(0, .ref (ad 0)), (1, .int r1), (2, .int r11)]) hl [1, 2, 0] rfl
        refine lv_aload_n C.1 C.2.1 dX12_unit_67 rfl (lv_at hl 0 rfl) ?_
        refine lv_bipush (v := 41) C.1 C.2.1 dX12_unit_68 (by decide) ?_
        obtain ⟨⟨r14, u15⟩, hc16, h⟩ := bd_some h
        try dsimp only at h
        refine cg_i (As := [.int 41]) (rest := []) (AM_ge hJ) C hK hP hS (metX12_takes_0 l D cy ad st hJ _ 41 hc16) (cwV 1 C.2.2.2.2.2.1 gX12_unit_X12_takes rfl rfl rfl (by decide +kernel) ⟨(Nat.le_trans (m := 70) (Nat.le_of_ble_eq_true rfl) (rmX12conditiong_f _)), (Nat.le_trans (m := 4236) (Nat.le_of_ble_eq_true rfl) (rmX12conditiong_l _))⟩) 0 12 rfl rfl rfl hl.1 rfl (Nat.le_of_ble_eq_true rfl) dX12_unit_70 ⟨Nat.zero_le _, Nat.zero_le _⟩ (fun H locs hP hS => ?_)
        refine lv_if_ne (tgt := 78) C.1 C.2.1 dX12_unit_73 (by decide) (fun c73 => ?_) (fun c73 => ?_)
        · rw [if_neg c73] at h
          refine lv_aload_n C.1 C.2.1 dX12_unit_78 rfl (lv_at hl 0 rfl) ?_
          refine lv_dup C.1 C.2.1 dX12_unit_79 rfl ?_
          refine gM_0_deep C hX12_unit_0_X12 hK hP mX12_unit_0_1 dX12_unit_80 ?_
          refine lv_iconst (v := 1) C.1 C.2.1 dX12_unit_83 (by decide) ?_
          refine lv_isub C.1 C.2.1 dX12_unit_84 ?_
          refine pM_0_deep C hX12_unit_0_X12 hK hP hJ hS mX12_unit_0_1 dX12_unit_85 (fun H locs hP hS => ?_)
          obtain ⟨u17, hu18, h⟩ := lt_some h
          rw [← hu18] at hP
          refine lv_iload_n C.1 C.2.1 dX12_unit_88 rfl (lv_at hl 2 rfl) ?_
          obtain ⟨hg19, h⟩ := gd_some h
          cases h
          exact rt_z hg19 C hP hS dX12_unit_89
        · rw [if_pos c73] at h
          refine lv_iconst (v := 0) C.1 C.2.1 dX12_unit_76 (by decide) ?_
          obtain ⟨hg20, h⟩ := gd_some h
          cases h
          exact rt_z hg20 C hP hS dX12_unit_77
      · rw [if_pos c55] at h
        refine lv_iconst (v := 0) C.1 C.2.1 dX12_unit_58 (by decide) ?_
        obtain ⟨hg21, h⟩ := gd_some h
        cases h
        exact rt_z hg21 C hP hS dX12_unit_59
  · rw [if_pos c8] at h
    refine lv_aload_n C.1 C.2.1 dX12_unit_11 rfl (lv_at hl 0 rfl) ?_
    obtain ⟨⟨r22, u23⟩, hc24, h⟩ := bd_some h
    try dsimp only at h
    refine cg_i (As := []) (rest := []) (AM_ge hJ) C hK hP hS (metX12_goesIn_0 l D cy ad st hJ _  hc24) (cwV 0 C.2.2.2.2.2.1 gX12_unit_X12_goesIn rfl rfl rfl (by decide +kernel) ⟨(Nat.le_trans (m := 70) (Nat.le_of_ble_eq_true rfl) (rmX12conditiong_f _)), (Nat.le_trans (m := 4236) (Nat.le_of_ble_eq_true rfl) (rmX12conditiong_l _))⟩) 0 12 rfl rfl rfl hl.1 rfl (Nat.le_of_ble_eq_true rfl) dX12_unit_12 ⟨Nat.zero_le _, Nat.zero_le _⟩ (fun H locs hP hS => ?_)
    refine lv_if_ne (tgt := 20) C.1 C.2.1 dX12_unit_15 (by decide) (fun c15 => ?_) (fun c15 => ?_)
    · rw [if_neg c15] at h
      refine lv_aload_n C.1 C.2.1 dX12_unit_20 rfl (lv_at hl 0 rfl) ?_
      obtain ⟨⟨r25, u26⟩, hc27, h⟩ := bd_some h
      try dsimp only at h
      refine cg_i (As := []) (rest := []) (AM_ge hJ) C hK hP hS (hrc.2.2 _  _ _ _ hc27) (cwV 0 C.2.2.2.2.2.1 gX12_unit_X12_unit rfl rfl rfl (by decide +kernel) ⟨rmX12conditiong_sf dd, rmX12conditiong_sl dd (k := 8 + (3 + 11)) (Nat.le_of_ble_eq_true rfl)⟩) 0 12 rfl rfl rfl hl.1 rfl (Nat.le_of_ble_eq_true rfl) dX12_unit_21 ⟨Nat.zero_le _, Nat.zero_le _⟩ (fun H locs hP hS => ?_)
      refine lv_istore_n (lv' := [(2, .int r25), (0, .ref (ad 0)), (1, .int r1)]) C.1 C.2.1 dX12_unit_24 rfl hl (by decide) rfl (fun ls hl => ?_)
      replace hl := lv_sub (l' := [(0, .ref (ad 0)), (1, .int r1), (2, .int r25)]) hl [1, 2, 0] rfl
      refine lv_aload_n C.1 C.2.1 dX12_unit_25 rfl (lv_at hl 0 rfl) ?_
      refine lv_dup C.1 C.2.1 dX12_unit_26 rfl ?_
      refine gM_0_deep C hX12_unit_0_X12 hK hP mX12_unit_0_1 dX12_unit_27 ?_
      refine lv_iconst (v := 1) C.1 C.2.1 dX12_unit_30 (by decide) ?_
      refine lv_isub C.1 C.2.1 dX12_unit_31 ?_
      refine pM_0_deep C hX12_unit_0_X12 hK hP hJ hS mX12_unit_0_1 dX12_unit_32 (fun H locs hP hS => ?_)
      obtain ⟨u28, hu29, h⟩ := lt_some h
      rw [← hu29] at hP
      refine lv_iload_n C.1 C.2.1 dX12_unit_35 rfl (lv_at hl 2 rfl) ?_
      refine lv_if_ne (tgt := 43) C.1 C.2.1 dX12_unit_36 (by decide) (fun c36 => ?_) (fun c36 => ?_)
      · rw [if_neg c36] at h
        refine lv_iconst (v := 0) C.1 C.2.1 dX12_unit_43 (by decide) ?_
        obtain ⟨hg30, h⟩ := gd_some h
        cases h
        exact rt_z hg30 C hP hS dX12_unit_44
      · rw [if_pos c36] at h
        refine lv_iconst (v := 1) C.1 C.2.1 dX12_unit_39 (by decide) ?_
        refine lv_goto (tgt := 44) C.1 C.2.1 dX12_unit_40 (by decide) ?_
        obtain ⟨hg31, h⟩ := gd_some h
        cases h
        exact rt_z hg31 C hP hS dX12_unit_44
    · rw [if_pos c15] at h
      refine lv_iconst (v := 0) C.1 C.2.1 dX12_unit_18 (by decide) ?_
      obtain ⟨hg32, h⟩ := gd_some h
      cases h
      exact rt_z hg32 C hP hS dX12_unit_19
theorem metX12_unit_0 (l : Launch) (D : va_G) (cy : Nat → ClassId) (ad st : Nat → Nat) (hJ : JM ad st) {rc : Nat → Int32 → Int32 → SX → Option (Int32 × SX)} {dd : Nat} (hrc : hRX12conditiong l D cy ad st rc dd) (sz : Nat)  {u : SX} {r : Int32} {u' : SX} (h : fX12_unit_0 rc  u = some (r, u')) : Met l yX12_unit wsX12_unit (rmX12conditiong (dd + 1)) (va_Pc [.ref (ad 0)] (Px D [(cy 0, .int), (cy 1, .long), (cy 2, .boolean), (cy 3, .byte), (cy 4, .object "HissHorn$Text")] st (VM cy ad st) sz u)) (Qi D (VM cy ad st) (AM ad) sz r u') 0 0 (Ax (AM ad) sz) := by
  refine Met.ofW (cc := cX12_unit) (maxL := 3) (ret := (some .boolean)) (by decide) rfl ?_
  intro p e s m args below meth c s₁ B hml hv
  obtain ⟨rfl, hsz, hP, hK⟩ := hv
  subst hsz
  have C : Cx RX12 cX12_unit 3 (some .boolean) wsX12_unit p s m _ meth c := ⟨B.exec, B.bytes, hml, B.returns, findClass_of_methodNamed B.named, atoms_spec (ws := wsX12_unit) B.pre, B.notSynchronized⟩
  have hl := lv_entry ([.ref (ad 0)]) (n := 3) (Nat.le_of_ble_eq_true rfl)
  rw [lg_entry_eq]
  exact wX12_unit_0 C hK hJ hrc h hP va_S.rf hl

def rX12conditiong : Nat → Nat → Int32 → Int32 → SX → Option (Int32 × SX)
  | 0, _, _, _, _ => none
  | d + 1, t, a0, a1, u => (if t = 0 then fX12_condition_0 (rX12conditiong d) a0 a1 u else (if t = 1 then fX12_part_0 (rX12conditiong d) a0 a1 u else (if t = 2 then fX12_unit_0 (rX12conditiong d)  u else none)))
theorem hRX12conditiong_all (l : Launch) (D : va_G) (cy : Nat → ClassId) (ad st : Nat → Nat) (hJ : JM ad st) : ∀ d, hRX12conditiong l D cy ad st (rX12conditiong d) d := by
  intro d
  induction d with
  | zero =>
    refine ⟨?_, ?_, ?_⟩
    · intro sz x1 x2 u r u' h
      exact absurd h (by intro q; cases q)
    · intro sz x1 x2 u r u' h
      exact absurd h (by intro q; cases q)
    · intro sz  u r u' h
      exact absurd h (by intro q; cases q)
  | succ d ih =>
    refine ⟨?_, ?_, ?_⟩
    · intro sz x1 x2 u r u' h
      rw [rX12conditiong] at h
      rw [if_pos rfl] at h
      exact metX12_condition_0 l D cy ad st hJ ih sz x1 x2 h
    · intro sz x1 x2 u r u' h
      rw [rX12conditiong] at h
      rw [if_neg (by decide)] at h; rw [if_pos rfl] at h
      exact metX12_part_0 l D cy ad st hJ ih sz x1 x2 h
    · intro sz  u r u' h
      rw [rX12conditiong] at h
      rw [if_neg (by decide)] at h; rw [if_neg (by decide)] at h; rw [if_pos rfl] at h
      exact metX12_unit_0 l D cy ad st hJ ih sz  h

theorem dX12_clause_131 : decode cX12_clause 131 = .ok (.aload_n 0, 1) := by decide +kernel
theorem dX12_clause_132 : decode cX12_clause 132 = .ok (.getfield 182, 3) := by decide +kernel
theorem dX12_clause_135 : decode cX12_clause 135 = .ok (.iconst (-1), 1) := by decide +kernel
theorem dX12_clause_136 : decode cX12_clause 136 = .ok (.if_icmp .ne 14, 3) := by decide +kernel
theorem dX12_clause_150 : decode cX12_clause 150 = .ok (.return_, 1) := by decide +kernel
theorem dX12_clause_139 : decode cX12_clause 139 = .ok (.aload_n 0, 1) := by decide +kernel
theorem dX12_clause_140 : decode cX12_clause 140 = .ok (.getfield 253, 3) := by decide +kernel
theorem dX12_clause_143 : decode cX12_clause 143 = .ok (.ifCond .ne 7, 3) := by decide +kernel
theorem dX12_clause_146 : decode cX12_clause 146 = .ok (.iload_n 2, 1) := by decide +kernel
theorem dX12_clause_147 : decode cX12_clause 147 = .ok (.ifCond .ne 4, 3) := by decide +kernel
theorem dX12_clause_151 : decode cX12_clause 151 = .ok (.aload_n 0, 1) := by decide +kernel
theorem dX12_clause_152 : decode cX12_clause 152 = .ok (.iconst 1, 1) := by decide +kernel
theorem dX12_clause_153 : decode cX12_clause 153 = .ok (.putfield 253, 3) := by decide +kernel
theorem dX12_clause_156 : decode cX12_clause 156 = .ok (.aload_n 0, 1) := by decide +kernel
theorem dX12_clause_157 : decode cX12_clause 157 = .ok (.iload_n 3, 1) := by decide +kernel
theorem dX12_clause_158 : decode cX12_clause 158 = .ok (.putfield 257, 3) := by decide +kernel
theorem dX12_clause_161 : decode cX12_clause 161 = .ok (.return_, 1) := by decide +kernel
theorem dX12_clause_61 : decode cX12_clause 61 = .ok (.aload_n 0, 1) := by decide +kernel
theorem dX12_clause_62 : decode cX12_clause 62 = .ok (.iconst 0, 1) := by decide +kernel
theorem dX12_clause_63 : decode cX12_clause 63 = .ok (.iconst 0, 1) := by decide +kernel
set_option maxRecDepth 20000 in
theorem ggX12_clause_X12_condition : GoodIn wsX12_clause wsX12_condition := ggi (fun w h => List.mem_cons_of_mem _ (List.mem_append_left _ (List.mem_append_right _ (List.mem_append_left _ h)))) gs_X12_condition
set_option maxRecDepth 20000 in
theorem gX12_clause_X12_condition : GoodIn wsX12_clause (wsV RX12 243 RX12 yX12_condition wsX12_condition) := goodIn_app (goodIn_of _ (by decide +kernel)) ggX12_clause_X12_condition
theorem dX12_clause_64 : decode cX12_clause 64 = .ok (.invokevirtual 243, 3) := by decide +kernel
theorem dX12_clause_67 : decode cX12_clause 67 = .ok (.istore_n 2, 1) := by decide +kernel
theorem dX12_clause_68 : decode cX12_clause 68 = .ok (.aload_n 0, 1) := by decide +kernel
theorem dX12_clause_69 : decode cX12_clause 69 = .ok (.bipush 63, 2) := by decide +kernel
set_option maxRecDepth 20000 in
theorem ggX12_clause_X12_takes : GoodIn wsX12_clause wsX12_takes := ggi (fun w h => List.mem_cons_of_mem _ (List.mem_append_left _ (List.mem_append_right _ (List.mem_append_right _ (List.mem_append_left _ h))))) gs_X12_takes
set_option maxRecDepth 20000 in
theorem gX12_clause_X12_takes : GoodIn wsX12_clause (wsV RX12 220 RX12 yX12_takes wsX12_takes) := goodIn_app (goodIn_of _ (by decide +kernel)) ggX12_clause_X12_takes
theorem dX12_clause_71 : decode cX12_clause 71 = .ok (.invokevirtual 220, 3) := by decide +kernel
theorem dX12_clause_74 : decode cX12_clause 74 = .ok (.ifCond .ne 4, 3) := by decide +kernel
theorem dX12_clause_78 : decode cX12_clause 78 = .ok (.aload_n 0, 1) := by decide +kernel
set_option maxRecDepth 20000 in
theorem ggX12_clause_X12_sum : GoodIn wsX12_clause wsX12_sum := ggi (fun w h => List.mem_cons_of_mem _ (List.mem_append_left _ (List.mem_append_right _ (List.mem_append_right _ (List.mem_append_right _ (List.mem_append_left _ h)))))) gs_X12_sum
set_option maxRecDepth 20000 in
theorem gX12_clause_X12_sum : GoodIn wsX12_clause (wsV RX12 217 RX12 yX12_sum wsX12_sum) := goodIn_app (goodIn_of _ (by decide +kernel)) ggX12_clause_X12_sum
theorem dX12_clause_79 : decode cX12_clause 79 = .ok (.invokevirtual 217, 3) := by decide +kernel
theorem dX12_clause_82 : decode cX12_clause 82 = .ok (.istore_n 3, 1) := by decide +kernel
theorem dX12_clause_83 : decode cX12_clause 83 = .ok (.goto 48, 3) := by decide +kernel
theorem dX12_clause_77 : decode cX12_clause 77 = .ok (.return_, 1) := by decide +kernel
theorem dX12_clause_0 : decode cX12_clause 0 = .ok (.aload_n 0, 1) := by decide +kernel
set_option maxRecDepth 20000 in
theorem ggX12_clause_X12_look : GoodIn wsX12_clause wsX12_look := ggi (fun w h => List.mem_cons_of_mem _ (List.mem_append_left _ (List.mem_append_right _ (List.mem_append_right _ (List.mem_append_right _ (List.mem_append_right _ (List.mem_append_left _ h))))))) gs_X12_look
set_option maxRecDepth 20000 in
theorem gX12_clause_X12_look : GoodIn wsX12_clause (wsV RX12 192 RX12 yX12_look wsX12_look) := goodIn_app (goodIn_of _ (by decide +kernel)) ggX12_clause_X12_look
theorem dX12_clause_1 : decode cX12_clause 1 = .ok (.invokevirtual 192, 3) := by decide +kernel
theorem dX12_clause_4 : decode cX12_clause 4 = .ok (.istore_n 1, 1) := by decide +kernel
theorem dX12_clause_5 : decode cX12_clause 5 = .ok (.iload_n 1, 1) := by decide +kernel
theorem dX12_clause_6 : decode cX12_clause 6 = .ok (.bipush 121, 2) := by decide +kernel
theorem dX12_clause_8 : decode cX12_clause 8 = .ok (.if_icmp .eq 9, 3) := by decide +kernel
theorem dX12_clause_17 : decode cX12_clause 17 = .ok (.aload_n 0, 1) := by decide +kernel
theorem dX12_clause_18 : decode cX12_clause 18 = .ok (.dup, 1) := by decide +kernel
theorem dX12_clause_19 : decode cX12_clause 19 = .ok (.getfield 173, 3) := by decide +kernel
theorem dX12_clause_22 : decode cX12_clause 22 = .ok (.iconst 1, 1) := by decide +kernel
theorem dX12_clause_23 : decode cX12_clause 23 = .ok (.iadd, 1) := by decide +kernel
