theorem dX12_lawWorth_0 : decode cX12_lawWorth 0 = .ok (.aload_n 0, 1) := by decide +kernel
set_option maxRecDepth 20000 in
theorem ggX12_lawWorth_X12_noLetters : GoodIn wsX12_lawWorth wsX12_noLetters := goodIn_r _ [6, 1, 181, 182, 183, 184, 185, 186, 187, 188, 189, 190, 191, 192, 193, 194, 195, 196, 197, 198, 199, 200, 201, 202, 203, 204, 205, 206, 207, 208, 209, 210, 211, 212, 213, 214, 215, 216, 217, 218, 219, 220, 221, 222, 223, 224, 225, 226, 227, 228, 229, 230, 231, 232, 233, 234, 235, 236, 237, 238, 239, 240, 241, 242, 243, 244, 245, 246, 247, 248, 249] (by decide +kernel) (by decide +kernel)
set_option maxRecDepth 20000 in
theorem gX12_lawWorth_X12_noLetters : GoodIn wsX12_lawWorth (wsV RX12 271 RX12 yX12_noLetters wsX12_noLetters) := goodIn_app (goodIn_of _ (by decide +kernel)) ggX12_lawWorth_X12_noLetters
theorem dX12_lawWorth_1 : decode cX12_lawWorth 1 = .ok (.invokevirtual 271, 3) := by decide +kernel
theorem dX12_lawWorth_4 : decode cX12_lawWorth 4 = .ok (.aload_n 0, 1) := by decide +kernel
theorem dX12_lawWorth_5 : decode cX12_lawWorth 5 = .ok (.getfield 23, 3) := by decide +kernel
theorem dX12_lawWorth_8 : decode cX12_lawWorth 8 = .ok (.bipush 100, 2) := by decide +kernel
theorem dX12_lawWorth_10 : decode cX12_lawWorth 10 = .ok (.iload_n 2, 1) := by decide +kernel
theorem dX12_lawWorth_11 : decode cX12_lawWorth 11 = .ok (.iastore, 1) := by decide +kernel
theorem dX12_lawWorth_12 : decode cX12_lawWorth 12 = .ok (.aload_n 0, 1) := by decide +kernel
theorem dX12_lawWorth_13 : decode cX12_lawWorth 13 = .ok (.getfield 23, 3) := by decide +kernel
theorem dX12_lawWorth_16 : decode cX12_lawWorth 16 = .ok (.bipush 97, 2) := by decide +kernel
theorem dX12_lawWorth_18 : decode cX12_lawWorth 18 = .ok (.iload_n 3, 1) := by decide +kernel
theorem dX12_lawWorth_19 : decode cX12_lawWorth 19 = .ok (.iastore, 1) := by decide +kernel
theorem dX12_lawWorth_20 : decode cX12_lawWorth 20 = .ok (.aload_n 0, 1) := by decide +kernel
theorem dX12_lawWorth_21 : decode cX12_lawWorth 21 = .ok (.getfield 23, 3) := by decide +kernel
theorem dX12_lawWorth_24 : decode cX12_lawWorth 24 = .ok (.bipush 104, 2) := by decide +kernel
theorem dX12_lawWorth_26 : decode cX12_lawWorth 26 = .ok (.iload 4, 2) := by decide +kernel
theorem dX12_lawWorth_28 : decode cX12_lawWorth 28 = .ok (.iastore, 1) := by decide +kernel
theorem dX12_lawWorth_29 : decode cX12_lawWorth 29 = .ok (.aload_n 0, 1) := by decide +kernel
theorem dX12_lawWorth_30 : decode cX12_lawWorth 30 = .ok (.getfield 23, 3) := by decide +kernel
theorem dX12_lawWorth_33 : decode cX12_lawWorth 33 = .ok (.bipush 101, 2) := by decide +kernel
theorem dX12_lawWorth_35 : decode cX12_lawWorth 35 = .ok (.iload 5, 2) := by decide +kernel
theorem dX12_lawWorth_37 : decode cX12_lawWorth 37 = .ok (.iastore, 1) := by decide +kernel
theorem dX12_lawWorth_38 : decode cX12_lawWorth 38 = .ok (.aload_n 0, 1) := by decide +kernel
theorem dX12_lawWorth_39 : decode cX12_lawWorth 39 = .ok (.getfield 23, 3) := by decide +kernel
theorem dX12_lawWorth_42 : decode cX12_lawWorth 42 = .ok (.bipush 119, 2) := by decide +kernel
theorem dX12_lawWorth_44 : decode cX12_lawWorth 44 = .ok (.iload 6, 2) := by decide +kernel
theorem dX12_lawWorth_46 : decode cX12_lawWorth 46 = .ok (.iastore, 1) := by decide +kernel
theorem dX12_lawWorth_47 : decode cX12_lawWorth 47 = .ok (.aload_n 0, 1) := by decide +kernel
theorem dX12_lawWorth_48 : decode cX12_lawWorth 48 = .ok (.getfield 23, 3) := by decide +kernel
theorem dX12_lawWorth_51 : decode cX12_lawWorth 51 = .ok (.bipush 108, 2) := by decide +kernel
theorem dX12_lawWorth_53 : decode cX12_lawWorth 53 = .ok (.iload 7, 2) := by decide +kernel
theorem dX12_lawWorth_55 : decode cX12_lawWorth 55 = .ok (.iastore, 1) := by decide +kernel
theorem dX12_lawWorth_56 : decode cX12_lawWorth 56 = .ok (.aload_n 0, 1) := by decide +kernel
theorem dX12_lawWorth_57 : decode cX12_lawWorth 57 = .ok (.iconst 0, 1) := by decide +kernel
theorem dX12_lawWorth_58 : decode cX12_lawWorth 58 = .ok (.iload_n 1, 1) := by decide +kernel
set_option maxRecDepth 20000 in
theorem ggX12_lawWorth_X12_worthOf : GoodIn wsX12_lawWorth wsX12_worthOf := goodIn_r _ [10, 11, 12, 13, 14, 15, 16, 5, 17, 18, 19, 20, 21, 22, 23, 24, 25, 26, 27, 28, 29, 30, 31, 32, 33, 34, 35, 36, 37, 38, 39, 40, 41, 42, 43, 44, 45, 46, 47, 48, 49, 50, 51, 52, 53, 54, 55, 56, 57, 58, 59, 60, 61, 62, 63, 64, 65, 66, 67, 68, 69, 70, 71, 72, 73, 1, 74, 75, 76, 77, 78, 79, 80, 81, 82, 83, 84, 85, 86, 87, 88, 89, 90, 91, 92, 93, 94, 95, 96, 97, 98, 99, 100, 101, 102, 103, 104, 105, 106, 107, 108, 109, 110, 111, 112, 113, 114, 115, 116, 117, 118, 119, 120, 121, 122, 123, 124, 125, 126, 127, 128, 129, 130, 131, 132, 133, 134, 135, 136, 137, 138, 139, 140, 141, 142, 143, 144, 145, 146, 147, 148, 149, 150, 151, 152, 153, 154, 155, 156, 157, 158, 159, 160, 161, 162, 163, 164, 165, 166, 167, 168, 169, 170, 171, 172, 173, 174, 175, 176, 177, 178, 179, 180, 181, 182, 183, 184, 185, 186, 187, 188, 189, 190, 191, 192, 193, 194, 195, 196, 197, 198, 199, 200, 201, 202, 203, 204, 205, 206, 207, 208, 209, 210, 211, 212, 213, 214, 215, 216, 217, 218, 219, 220, 221, 222, 223, 224, 225, 226, 227, 228, 229, 230, 231, 232, 233, 234, 235, 236, 237, 238, 239, 240, 241, 242, 243, 244, 245, 246, 247, 248, 249] (by decide +kernel) (by decide +kernel)
set_option maxRecDepth 20000 in
theorem gX12_lawWorth_X12_worthOf : GoodIn wsX12_lawWorth (wsV RX12 274 RX12 yX12_worthOf wsX12_worthOf) := goodIn_app (goodIn_of _ (by decide +kernel)) ggX12_lawWorth_X12_worthOf
theorem dX12_lawWorth_59 : decode cX12_lawWorth 59 = .ok (.invokevirtual 274, 3) := by decide +kernel
theorem dX12_lawWorth_62 : decode cX12_lawWorth 62 = .ok (.ireturn, 1) := by decide +kernel
/-- HissHornModel.lawWorth(IIIIIII)I of cell 0 -/
def rmX12_lawWorth_0 : Room := { frames := 136, cells := 0, slots := 0, locals := 8377 }
theorem hX12_lawWorth_0_X12 : ∀ w ∈ u_ws RX12 TX12 69, w ∈ wsX12_lawWorth := fun w h => (List.mem_cons_of_mem _ (List.mem_append_right _ h))
theorem mX12_lawWorth_0_1 : Cond.fieldLink RX12 23 "HissHornModel" "letters" "[I" ∈ wsX12_lawWorth := (List.mem_cons_of_mem _ (List.mem_append_left _ (List.mem_append_left _ (List.mem_of_getElem? (i := 0) rfl))))
def fX12_lawWorth_0 (x1 : Int32) (x2 : Int32) (x3 : Int32) (x4 : Int32) (x5 : Int32) (x6 : Int32) (x7 : Int32) (u : SX) : Option (Int32 × SX) := ((fX12_noLetters_0  u).bind fun q => match q with | (r1, u2) => (gd (inb 100 128) (lt (sA u2 5 (upd (u2.2.1 5) (100 : Int32).toNatClampNeg x2)) fun u5 => (gd (inb 97 128) (lt (sA u5 5 (upd (u5.2.1 5) (97 : Int32).toNatClampNeg x3)) fun u8 => (gd (inb 104 128) (lt (sA u8 5 (upd (u8.2.1 5) (104 : Int32).toNatClampNeg x4)) fun u11 => (gd (inb 101 128) (lt (sA u11 5 (upd (u11.2.1 5) (101 : Int32).toNatClampNeg x5)) fun u14 => (gd (inb 119 128) (lt (sA u14 5 (upd (u14.2.1 5) (119 : Int32).toNatClampNeg x6)) fun u17 => (gd (inb 108 128) (lt (sA u17 5 (upd (u17.2.1 5) (108 : Int32).toNatClampNeg x7)) fun u20 => ((fX12_worthOf_0 0 x1 u20).bind fun q => match q with | (r22, u23) => (some (r22, u23))))))))))))))))
set_option maxHeartbeats 4000000 in
set_option maxRecDepth 100000 in
theorem wX12_lawWorth_0 {p : Program} {l : Launch} {e : Env} {s : State} {m : MethodId} {args : Array Value} {below : List Frame} {meth : Method} {c : Code} {D : va_G} {cy : Nat → ClassId} {ad st : Nat → Nat} (C : Cx RX12 cX12_lawWorth 8 (some .int) wsX12_lawWorth p s m args meth c) (hK : Kx D [(cy 0, .int), (cy 1, .long), (cy 2, .boolean), (cy 3, .byte), (cy 4, .object "HissHorn$Text")] st s) (hJ : JM ad) (x1 : Int32) (x2 : Int32) (x3 : Int32) (x4 : Int32) (x5 : Int32) (x6 : Int32) (x7 : Int32) {u : SX} {r : Int32} {u' : SX} {H : Heap} {locs : List Loc} {ls : Array Slot} (h : fX12_lawWorth_0 x1 x2 x3 x4 x5 x6 x7 u = some (r, u')) (hP : va_P D vwCl (VM cy ad st u) H) (hS : va_S (Ax (AM ad) s.heap.size) s.heap H locs) (hl : lv_has ls 8 [(0, .ref (ad 0)), (1, .int x1), (2, .int x2), (3, .int x3), (4, .int x4), (5, .int x5), (6, .int x6), (7, .int x7)]) : W p l e rmX12_lawWorth_0 s m args below meth c H locs 0 0 (MQ below (Qi D (VM cy ad st) (AM ad) s.heap.size r u') args s 0 0 (Ax (AM ad) s.heap.size)) (F0 m 0 ls []) := by
  unfold fX12_lawWorth_0 at h
  refine lv_aload_n C.1 C.2.1 dX12_lawWorth_0 rfl (lv_at hl 0 rfl) ?_
  obtain ⟨⟨r1, u2⟩, hc3, h⟩ := bd_some h
  try dsimp only at h
  refine cg_v (As := []) (rest := []) C hK hP hS (metX12_noLetters_0 l D cy ad st hJ _  hc3) (cwV 0 C.2.2.2.2.2.1 gX12_lawWorth_X12_noLetters rfl rfl rfl (by decide +kernel) ⟨(Nat.le_of_ble_eq_true rfl), (Nat.le_of_ble_eq_true rfl)⟩) 0 12 rfl rfl rfl hl.1 rfl (Nat.le_of_ble_eq_true rfl) dX12_lawWorth_1 ⟨Nat.zero_le _, Nat.zero_le _⟩ (fun H locs hP hS => ?_)
  refine lv_aload_n C.1 C.2.1 dX12_lawWorth_4 rfl (lv_at hl 0 rfl) ?_
  refine gM_0_letters C hX12_lawWorth_0_X12 hK hP mX12_lawWorth_0_1 dX12_lawWorth_5 ?_
  refine lv_bipush (v := 100) C.1 C.2.1 dX12_lawWorth_8 (by decide) ?_
  refine lv_iload_n C.1 C.2.1 dX12_lawWorth_10 rfl (lv_at hl 2 rfl) ?_
  obtain ⟨hg4, h⟩ := gd_some h
  refine tM_5 C hK hP hJ hS hg4 dX12_lawWorth_11 (fun H locs hP hS => ?_)
  obtain ⟨u5, hu6, h⟩ := lt_some h
  rw [← hu6] at hP
  refine lv_aload_n C.1 C.2.1 dX12_lawWorth_12 rfl (lv_at hl 0 rfl) ?_
  refine gM_0_letters C hX12_lawWorth_0_X12 hK hP mX12_lawWorth_0_1 dX12_lawWorth_13 ?_
  refine lv_bipush (v := 97) C.1 C.2.1 dX12_lawWorth_16 (by decide) ?_
  refine lv_iload_n C.1 C.2.1 dX12_lawWorth_18 rfl (lv_at hl 3 rfl) ?_
  obtain ⟨hg7, h⟩ := gd_some h
  refine tM_5 C hK hP hJ hS hg7 dX12_lawWorth_19 (fun H locs hP hS => ?_)
  obtain ⟨u8, hu9, h⟩ := lt_some h
  rw [← hu9] at hP
  refine lv_aload_n C.1 C.2.1 dX12_lawWorth_20 rfl (lv_at hl 0 rfl) ?_
  refine gM_0_letters C hX12_lawWorth_0_X12 hK hP mX12_lawWorth_0_1 dX12_lawWorth_21 ?_
  refine lv_bipush (v := 104) C.1 C.2.1 dX12_lawWorth_24 (by decide) ?_
  refine lv_iload C.1 C.2.1 dX12_lawWorth_26 (lv_at hl 4 rfl) ?_
  obtain ⟨hg10, h⟩ := gd_some h
  refine tM_5 C hK hP hJ hS hg10 dX12_lawWorth_28 (fun H locs hP hS => ?_)
  obtain ⟨u11, hu12, h⟩ := lt_some h
  rw [← hu12] at hP
  refine lv_aload_n C.1 C.2.1 dX12_lawWorth_29 rfl (lv_at hl 0 rfl) ?_
  refine gM_0_letters C hX12_lawWorth_0_X12 hK hP mX12_lawWorth_0_1 dX12_lawWorth_30 ?_
  refine lv_bipush (v := 101) C.1 C.2.1 dX12_lawWorth_33 (by decide) ?_
  refine lv_iload C.1 C.2.1 dX12_lawWorth_35 (lv_at hl 5 rfl) ?_
  obtain ⟨hg13, h⟩ := gd_some h
  refine tM_5 C hK hP hJ hS hg13 dX12_lawWorth_37 (fun H locs hP hS => ?_)
  obtain ⟨u14, hu15, h⟩ := lt_some h
  rw [← hu15] at hP
  refine lv_aload_n C.1 C.2.1 dX12_lawWorth_38 rfl (lv_at hl 0 rfl) ?_
  refine gM_0_letters C hX12_lawWorth_0_X12 hK hP mX12_lawWorth_0_1 dX12_lawWorth_39 ?_
  refine lv_bipush (v := 119) C.1 C.2.1 dX12_lawWorth_42 (by decide) ?_
  refine lv_iload C.1 C.2.1 dX12_lawWorth_44 (lv_at hl 6 rfl) ?_
  obtain ⟨hg16, h⟩ := gd_some h
  refine tM_5 C hK hP hJ hS hg16 dX12_lawWorth_46 (fun H locs hP hS => ?_)
  obtain ⟨u17, hu18, h⟩ := lt_some h
  rw [← hu18] at hP
  refine lv_aload_n C.1 C.2.1 dX12_lawWorth_47 rfl (lv_at hl 0 rfl) ?_
  refine gM_0_letters C hX12_lawWorth_0_X12 hK hP mX12_lawWorth_0_1 dX12_lawWorth_48 ?_
  refine lv_bipush (v := 108) C.1 C.2.1 dX12_lawWorth_51 (by decide) ?_
  refine lv_iload C.1 C.2.1 dX12_lawWorth_53 (lv_at hl 7 rfl) ?_
  obtain ⟨hg19, h⟩ := gd_some h
  refine tM_5 C hK hP hJ hS hg19 dX12_lawWorth_55 (fun H locs hP hS => ?_)
  obtain ⟨u20, hu21, h⟩ := lt_some h
  rw [← hu21] at hP
  refine lv_aload_n C.1 C.2.1 dX12_lawWorth_56 rfl (lv_at hl 0 rfl) ?_
  refine lv_iconst (v := 0) C.1 C.2.1 dX12_lawWorth_57 (by decide) ?_
  refine lv_iload_n C.1 C.2.1 dX12_lawWorth_58 rfl (lv_at hl 1 rfl) ?_
  obtain ⟨⟨r22, u23⟩, hc24, h⟩ := bd_some h
  try dsimp only at h
  refine cg_i (As := [.int 0, .int x1]) (rest := []) C hK hP hS (metX12_worthOf_0 l D cy ad st hJ _ 0 x1 hc24) (cwV 2 C.2.2.2.2.2.1 gX12_lawWorth_X12_worthOf rfl rfl rfl (by decide +kernel) ⟨(Nat.le_of_ble_eq_true rfl), (Nat.le_of_ble_eq_true rfl)⟩) 0 12 rfl rfl rfl hl.1 rfl (Nat.le_of_ble_eq_true rfl) dX12_lawWorth_59 ⟨Nat.zero_le _, Nat.zero_le _⟩ (fun H locs hP hS => ?_)
  cases h
  exact rt_i C hP hS dX12_lawWorth_62
theorem metX12_lawWorth_0 (l : Launch) (D : va_G) (cy : Nat → ClassId) (ad st : Nat → Nat) (hJ : JM ad) (sz : Nat) (x1 : Int32) (x2 : Int32) (x3 : Int32) (x4 : Int32) (x5 : Int32) (x6 : Int32) (x7 : Int32) {u : SX} {r : Int32} {u' : SX} (h : fX12_lawWorth_0 x1 x2 x3 x4 x5 x6 x7 u = some (r, u')) : Met l yX12_lawWorth wsX12_lawWorth rmX12_lawWorth_0 (va_Pc [.ref (ad 0), .int x1, .int x2, .int x3, .int x4, .int x5, .int x6, .int x7] (Px D [(cy 0, .int), (cy 1, .long), (cy 2, .boolean), (cy 3, .byte), (cy 4, .object "HissHorn$Text")] st (VM cy ad st) sz u)) (Qi D (VM cy ad st) (AM ad) sz r u') 0 0 (Ax (AM ad) sz) := by
  refine Met.ofW (cc := cX12_lawWorth) (maxL := 8) (ret := (some .int)) (by decide) rfl ?_
  intro p e s m args below meth c s₁ B hml hv
  obtain ⟨rfl, hsz, hP, hK⟩ := hv
  subst hsz
  have C : Cx RX12 cX12_lawWorth 8 (some .int) wsX12_lawWorth p s m _ meth c := ⟨B.exec, B.bytes, hml, B.returns, findClass_of_methodNamed B.named, atoms_spec (ws := wsX12_lawWorth) B.pre, B.notSynchronized⟩
  have hl := lv_entry ([.ref (ad 0), .int x1, .int x2, .int x3, .int x4, .int x5, .int x6, .int x7]) (n := 8) (Nat.le_of_ble_eq_true rfl)
  rw [lg_entry_eq]
  exact wX12_lawWorth_0 C hK hJ x1 x2 x3 x4 x5 x6 x7 h hP va_S.rf hl

theorem dX12_worth_46 : decode cX12_worth 46 = .ok (.putfield 151, 3) := by decide +kernel
theorem dX12_worth_49 : decode cX12_worth 49 = .ok (.aload_n 0, 1) := by decide +kernel
theorem dX12_worth_50 : decode cX12_worth 50 = .ok (.getfield 151, 3) := by decide +kernel
theorem dX12_worth_53 : decode cX12_worth 53 = .ok (.ifCond .le 7, 3) := by decide +kernel
theorem dX12_worth_60 : decode cX12_worth 60 = .ok (.aload_n 0, 1) := by decide +kernel
theorem dX12_worth_61 : decode cX12_worth 61 = .ok (.iload_n 1, 1) := by decide +kernel
theorem dX12_worth_62 : decode cX12_worth 62 = .ok (.iload_n 2, 1) := by decide +kernel
theorem dX12_worth_63 : decode cX12_worth 63 = .ok (.iload_n 3, 1) := by decide +kernel
theorem dX12_worth_64 : decode cX12_worth 64 = .ok (.iload 4, 2) := by decide +kernel
theorem dX12_worth_66 : decode cX12_worth 66 = .ok (.iload 5, 2) := by decide +kernel
theorem dX12_worth_68 : decode cX12_worth 68 = .ok (.iload 6, 2) := by decide +kernel
theorem dX12_worth_70 : decode cX12_worth 70 = .ok (.iload 7, 2) := by decide +kernel
set_option maxRecDepth 20000 in
theorem ggX12_worth_X12_lawWorth : GoodIn wsX12_worth wsX12_lawWorth := goodIn_r _ [13, 14, 15, 16, 17, 5, 18, 19, 20, 21, 22, 23, 24, 25, 26, 27, 28, 29, 30, 31, 32, 33, 34, 35, 36, 37, 38, 39, 40, 41, 42, 43, 44, 45, 46, 47, 48, 49, 50, 51, 52, 53, 54, 55, 56, 57, 58, 59, 60, 61, 62, 63, 64, 65, 66, 67, 68, 69, 70, 71, 72, 73, 74, 75, 76, 77, 78, 79, 80, 81, 82, 83, 84, 85, 86, 87, 88, 89, 90, 91, 92, 93, 94, 95, 96, 97, 98, 99, 100, 101, 102, 103, 104, 105, 106, 107, 108, 109, 110, 111, 112, 113, 114, 115, 116, 117, 118, 119, 120, 121, 122, 123, 124, 125, 126, 127, 128, 129, 130, 131, 132, 133, 134, 135, 136, 137, 138, 139, 140, 141, 142, 143, 144, 145, 146, 147, 148, 149, 150, 151, 152, 153, 154, 155, 156, 157, 158, 159, 160, 161, 162, 163, 164, 165, 166, 167, 168, 169, 170, 171, 172, 173, 174, 175, 176, 177, 178, 179, 180, 181, 182, 183, 184, 185, 186, 187, 188, 189, 190, 191, 192, 193, 194, 195, 196, 197, 198, 199, 200, 201, 202, 203, 204, 205, 206, 207, 208, 209, 210, 211, 212, 213, 214, 215, 216, 217, 218, 219, 220, 221, 222, 223, 224, 225, 226, 227, 228, 229, 230, 231, 232, 233, 234, 235, 236, 237, 238, 239, 240, 241, 242, 243, 244, 245, 246, 247, 248, 249, 250, 251, 252, 253, 254, 255, 256, 257, 258, 259, 260, 261] (by decide +kernel) (by decide +kernel)
set_option maxRecDepth 20000 in
theorem gX12_worth_X12_lawWorth : GoodIn wsX12_worth (wsV RX12 282 RX12 yX12_lawWorth wsX12_lawWorth) := goodIn_app (goodIn_of _ (by decide +kernel)) ggX12_worth_X12_lawWorth
theorem dX12_worth_72 : decode cX12_worth 72 = .ok (.invokevirtual 282, 3) := by decide +kernel
theorem dX12_worth_75 : decode cX12_worth 75 = .ok (.ireturn, 1) := by decide +kernel
theorem dX12_worth_56 : decode cX12_worth 56 = .ok (.iconst 0, 1) := by decide +kernel
theorem dX12_worth_57 : decode cX12_worth 57 = .ok (.goto 18, 3) := by decide +kernel
theorem dX12_worth_45 : decode cX12_worth 45 = .ok (.iconst 1, 1) := by decide +kernel
theorem dX12_worth_0 : decode cX12_worth 0 = .ok (.aload_n 0, 1) := by decide +kernel
theorem dX12_worth_1 : decode cX12_worth 1 = .ok (.iload_n 1, 1) := by decide +kernel
theorem dX12_worth_2 : decode cX12_worth 2 = .ok (.iconst 0, 1) := by decide +kernel
theorem dX12_worth_3 : decode cX12_worth 3 = .ok (.aload_n 0, 1) := by decide +kernel
theorem dX12_worth_4 : decode cX12_worth 4 = .ok (.getfield 20, 3) := by decide +kernel
theorem dX12_worth_7 : decode cX12_worth 7 = .ok (.iconst 0, 1) := by decide +kernel
theorem dX12_worth_8 : decode cX12_worth 8 = .ok (.iaload, 1) := by decide +kernel
theorem dX12_worth_9 : decode cX12_worth 9 = .ok (.iconst 1, 1) := by decide +kernel
theorem dX12_worth_10 : decode cX12_worth 10 = .ok (.isub, 1) := by decide +kernel
set_option maxRecDepth 20000 in
theorem ggX12_worth_X12_isIn : GoodIn wsX12_worth wsX12_isIn := goodIn_r _ [6] (by decide +kernel) (by decide +kernel)
set_option maxRecDepth 20000 in
theorem gX12_worth_X12_isIn : GoodIn wsX12_worth (va_wsS RX12 155 yX12_isIn wsX12_isIn) := goodIn_app (goodIn_of _ (by decide +kernel)) ggX12_worth_X12_isIn
theorem dX12_worth_11 : decode cX12_worth 11 = .ok (.invokestatic 155, 3) := by decide +kernel
theorem dX12_worth_14 : decode cX12_worth 14 = .ok (.ifCond .eq 31, 3) := by decide +kernel
theorem dX12_worth_17 : decode cX12_worth 17 = .ok (.iload_n 2, 1) := by decide +kernel
theorem dX12_worth_18 : decode cX12_worth 18 = .ok (.iload_n 3, 1) := by decide +kernel
theorem dX12_worth_19 : decode cX12_worth 19 = .ok (.iload 4, 2) := by decide +kernel
theorem dX12_worth_21 : decode cX12_worth 21 = .ok (.iload 6, 2) := by decide +kernel
theorem dX12_worth_23 : decode cX12_worth 23 = .ok (.iload 7, 2) := by decide +kernel
set_option maxRecDepth 20000 in
theorem ggX12_worth_X12_isAim : GoodIn wsX12_worth wsX12_isAim := goodIn_r _ [9, 3, 4, 5, 6] (by decide +kernel) (by decide +kernel)
set_option maxRecDepth 20000 in
theorem gX12_worth_X12_isAim : GoodIn wsX12_worth (va_wsS RX12 278 yX12_isAim wsX12_isAim) := goodIn_app (goodIn_of _ (by decide +kernel)) ggX12_worth_X12_isAim
theorem dX12_worth_25 : decode cX12_worth 25 = .ok (.invokestatic 278, 3) := by decide +kernel
theorem dX12_worth_28 : decode cX12_worth 28 = .ok (.ifCond .eq 17, 3) := by decide +kernel
theorem dX12_worth_31 : decode cX12_worth 31 = .ok (.iload 5, 2) := by decide +kernel
theorem dX12_worth_33 : decode cX12_worth 33 = .ok (.iconst 0, 1) := by decide +kernel
theorem dX12_worth_34 : decode cX12_worth 34 = .ok (.iconst 3, 1) := by decide +kernel
theorem dX12_worth_35 : decode cX12_worth 35 = .ok (.invokestatic 155, 3) := by decide +kernel
theorem dX12_worth_38 : decode cX12_worth 38 = .ok (.ifCond .eq 7, 3) := by decide +kernel
theorem dX12_worth_41 : decode cX12_worth 41 = .ok (.iconst 0, 1) := by decide +kernel
theorem dX12_worth_42 : decode cX12_worth 42 = .ok (.goto 4, 3) := by decide +kernel
/-- HissHornModel.worth(IIIIIII)I of cell 0 -/
def rmX12_worth_0 : Room := { frames := 137, cells := 0, slots := 0, locals := 8404 }
theorem hX12_worth_0_X12 : ∀ w ∈ u_ws RX12 TX12 69, w ∈ wsX12_worth := fun w h => (List.mem_cons_of_mem _ (List.mem_append_right _ h))
theorem mX12_worth_0_1 : Cond.fieldLink RX12 20 "HissHornModel" "textMany" "[I" ∈ wsX12_worth := (List.mem_cons_of_mem _ (List.mem_append_left _ (List.mem_append_left _ (List.mem_of_getElem? (i := 0) rfl))))
theorem mX12_worth_0_2 : Cond.fieldLink RX12 151 "HissHornModel" "thrown" "I" ∈ wsX12_worth := (List.mem_cons_of_mem _ (List.mem_append_left _ (List.mem_append_left _ (List.mem_of_getElem? (i := 1) rfl))))
def GX12_worth_0_46 (z1 : Int32) (z2 : Int32) (z3 : Int32) (z4 : Int32) (z5 : Int32) (z6 : Int32) (z7 : Int32) (y0 : Int32) (u : SX) : Option (Int32 × SX) := (lt (sI u 0 y0) fun u5 => (if (u5.1 0) ≤ 0 then ((fX12_lawWorth_0 z1 z2 z3 z4 z5 z6 z7 u5).bind fun q => match q with | (r7, u8) => (some (r7, u8))) else (some (0, u5))))
def GX12_worth_0_45 (z1 : Int32) (z2 : Int32) (z3 : Int32) (z4 : Int32) (z5 : Int32) (z6 : Int32) (z7 : Int32) (u : SX) : Option (Int32 × SX) := (GX12_worth_0_46 z1 z2 z3 z4 z5 z6 z7 1 u)
def fX12_worth_0 (x1 : Int32) (x2 : Int32) (x3 : Int32) (x4 : Int32) (x5 : Int32) (x6 : Int32) (x7 : Int32) (u : SX) : Option (Int32 × SX) := (gd (inb 0 3) ((fX12_isIn x1 0 ((u.2.1 4 (0 : Int32).toNatClampNeg) - 1)).bind fun r2 => (if r2 = 0 then (GX12_worth_0_45 x1 x2 x3 x4 x5 x6 x7 u) else ((fX12_isAim x2 x3 x4 x6 x7).bind fun r10 => (if r10 = 0 then (GX12_worth_0_45 x1 x2 x3 x4 x5 x6 x7 u) else ((fX12_isIn x5 0 3).bind fun r13 => (if r13 = 0 then (GX12_worth_0_45 x1 x2 x3 x4 x5 x6 x7 u) else (GX12_worth_0_46 x1 x2 x3 x4 x5 x6 x7 0 u))))))))
set_option maxHeartbeats 4000000 in
set_option maxRecDepth 100000 in
theorem wGX12_worth_0_46 {p : Program} {l : Launch} {e : Env} {s : State} {m : MethodId} {args : Array Value} {below : List Frame} {meth : Method} {c : Code} {D : va_G} {cy : Nat → ClassId} {ad st : Nat → Nat} (C : Cx RX12 cX12_worth 8 (some .int) wsX12_worth p s m args meth c) (hK : Kx D [(cy 0, .int), (cy 1, .long), (cy 2, .boolean), (cy 3, .byte), (cy 4, .object "HissHorn$Text")] st s) (hJ : JM ad) {r : Int32} {u' : SX}   (z1 : Int32) (z2 : Int32) (z3 : Int32) (z4 : Int32) (z5 : Int32) (z6 : Int32) (z7 : Int32) (y0 : Int32) (u : SX) (H : Heap) (locs : List Loc) (ls : Array Slot) (h : GX12_worth_0_46 z1 z2 z3 z4 z5 z6 z7 y0 u = some (r, u')) (hP : va_P D vwCl (VM cy ad st u) H) (hS : va_S (Ax (AM ad) s.heap.size) s.heap H locs) (hl : lv_has ls 8 [(0, .ref (ad 0)), (1, .int z1), (2, .int z2), (3, .int z3), (4, .int z4), (5, .int z5), (6, .int z6), (7, .int z7)]) : W p l e rmX12_worth_0 s m args below meth c H locs 0 0 (MQ below (Qi D (VM cy ad st) (AM ad) s.heap.size r u') args s 0 0 (Ax (AM ad) s.heap.size)) (F0 m 46 ls [.int y0, .ref (ad 0)]) := by
  unfold GX12_worth_0_46 at h
  refine pM_0_thrown C hX12_worth_0_X12 hK hP hJ hS mX12_worth_0_2 dX12_worth_46 (fun H locs hP hS => ?_)
  obtain ⟨u5, hu6, h⟩ := lt_some h
  rw [← hu6] at hP
  refine lv_aload_n C.1 C.2.1 dX12_worth_49 rfl (lv_at hl 0 rfl) ?_
  refine gM_0_thrown C hX12_worth_0_X12 hK hP mX12_worth_0_2 dX12_worth_50 ?_
  refine lv_if_le (tgt := 60) C.1 C.2.1 dX12_worth_53 (by decide) (fun c53 => ?_) (fun c53 => ?_)
  · rw [if_pos c53] at h
    refine lv_aload_n C.1 C.2.1 dX12_worth_60 rfl (lv_at hl 0 rfl) ?_
    refine lv_iload_n C.1 C.2.1 dX12_worth_61 rfl (lv_at hl 1 rfl) ?_
    refine lv_iload_n C.1 C.2.1 dX12_worth_62 rfl (lv_at hl 2 rfl) ?_
    refine lv_iload_n C.1 C.2.1 dX12_worth_63 rfl (lv_at hl 3 rfl) ?_
    refine lv_iload C.1 C.2.1 dX12_worth_64 (lv_at hl 4 rfl) ?_
    refine lv_iload C.1 C.2.1 dX12_worth_66 (lv_at hl 5 rfl) ?_
    refine lv_iload C.1 C.2.1 dX12_worth_68 (lv_at hl 6 rfl) ?_
    refine lv_iload C.1 C.2.1 dX12_worth_70 (lv_at hl 7 rfl) ?_
    obtain ⟨⟨r7, u8⟩, hc9, h⟩ := bd_some h
    try dsimp only at h
    refine cg_i (As := [.int z1, .int z2, .int z3, .int z4, .int z5, .int z6, .int z7]) (rest := []) C hK hP hS (metX12_lawWorth_0 l D cy ad st hJ _ z1 z2 z3 z4 z5 z6 z7 hc9) (cwV 7 C.2.2.2.2.2.1 gX12_worth_X12_lawWorth rfl rfl rfl (by decide +kernel) ⟨(Nat.le_of_ble_eq_true rfl), (Nat.le_of_ble_eq_true rfl)⟩) 0 12 rfl rfl rfl hl.1 rfl (Nat.le_of_ble_eq_true rfl) dX12_worth_72 ⟨Nat.zero_le _, Nat.zero_le _⟩ (fun H locs hP hS => ?_)
    cases h
    exact rt_i C hP hS dX12_worth_75
  · rw [if_neg c53] at h
    refine lv_iconst (v := 0) C.1 C.2.1 dX12_worth_56 (by decide) ?_
    refine lv_goto (tgt := 75) C.1 C.2.1 dX12_worth_57 (by decide) ?_
    cases h
    exact rt_i C hP hS dX12_worth_75
set_option maxHeartbeats 4000000 in
set_option maxRecDepth 100000 in
theorem wGX12_worth_0_45 {p : Program} {l : Launch} {e : Env} {s : State} {m : MethodId} {args : Array Value} {below : List Frame} {meth : Method} {c : Code} {D : va_G} {cy : Nat → ClassId} {ad st : Nat → Nat} (C : Cx RX12 cX12_worth 8 (some .int) wsX12_worth p s m args meth c) (hK : Kx D [(cy 0, .int), (cy 1, .long), (cy 2, .boolean), (cy 3, .byte), (cy 4, .object "HissHorn$Text")] st s) (hJ : JM ad) {r : Int32} {u' : SX}   (z1 : Int32) (z2 : Int32) (z3 : Int32) (z4 : Int32) (z5 : Int32) (z6 : Int32) (z7 : Int32) (u : SX) (H : Heap) (locs : List Loc) (ls : Array Slot) (h : GX12_worth_0_45 z1 z2 z3 z4 z5 z6 z7 u = some (r, u')) (hP : va_P D vwCl (VM cy ad st u) H) (hS : va_S (Ax (AM ad) s.heap.size) s.heap H locs) (hl : lv_has ls 8 [(0, .ref (ad 0)), (1, .int z1), (2, .int z2), (3, .int z3), (4, .int z4), (5, .int z5), (6, .int z6), (7, .int z7)]) : W p l e rmX12_worth_0 s m args below meth c H locs 0 0 (MQ below (Qi D (VM cy ad st) (AM ad) s.heap.size r u') args s 0 0 (Ax (AM ad) s.heap.size)) (F0 m 45 ls [.ref (ad 0)]) := by
  unfold GX12_worth_0_45 at h
  refine lv_iconst (v := 1) C.1 C.2.1 dX12_worth_45 (by decide) ?_
  exact wGX12_worth_0_46 C hK hJ _ _ _ _ _ _ _ _ _ _ _ _ h hP hS hl
set_option maxHeartbeats 4000000 in
set_option maxRecDepth 100000 in
theorem wX12_worth_0 {p : Program} {l : Launch} {e : Env} {s : State} {m : MethodId} {args : Array Value} {below : List Frame} {meth : Method} {c : Code} {D : va_G} {cy : Nat → ClassId} {ad st : Nat → Nat} (C : Cx RX12 cX12_worth 8 (some .int) wsX12_worth p s m args meth c) (hK : Kx D [(cy 0, .int), (cy 1, .long), (cy 2, .boolean), (cy 3, .byte), (cy 4, .object "HissHorn$Text")] st s) (hJ : JM ad) (x1 : Int32) (x2 : Int32) (x3 : Int32) (x4 : Int32) (x5 : Int32) (x6 : Int32) (x7 : Int32) {u : SX} {r : Int32} {u' : SX} {H : Heap} {locs : List Loc} {ls : Array Slot} (h : fX12_worth_0 x1 x2 x3 x4 x5 x6 x7 u = some (r, u')) (hP : va_P D vwCl (VM cy ad st u) H) (hS : va_S (Ax (AM ad) s.heap.size) s.heap H locs) (hl : lv_has ls 8 [(0, .ref (ad 0)), (1, .int x1), (2, .int x2), (3, .int x3), (4, .int x4), (5, .int x5), (6, .int x6), (7, .int x7)]) : W p l e rmX12_worth_0 s m args below meth c H locs 0 0 (MQ below (Qi D (VM cy ad st) (AM ad) s.heap.size r u') args s 0 0 (Ax (AM ad) s.heap.size)) (F0 m 0 ls []) := by
  unfold fX12_worth_0 at h
  refine lv_aload_n C.1 C.2.1 dX12_worth_0 rfl (lv_at hl 0 rfl) ?_
  refine lv_iload_n C.1 C.2.1 dX12_worth_1 rfl (lv_at hl 1 rfl) ?_
  refine lv_iconst (v := 0) C.1 C.2.1 dX12_worth_2 (by decide) ?_
  refine lv_aload_n C.1 C.2.1 dX12_worth_3 rfl (lv_at hl 0 rfl) ?_
  refine gM_0_textMany C hX12_worth_0_X12 hK hP mX12_worth_0_1 dX12_worth_4 ?_
  refine lv_iconst (v := 0) C.1 C.2.1 dX12_worth_7 (by decide) ?_
  obtain ⟨hg1, h⟩ := gd_some h
  refine lM_4 C hK hP hg1 dX12_worth_8 ?_
  refine lv_iconst (v := 1) C.1 C.2.1 dX12_worth_9 (by decide) ?_
  refine lv_isub C.1 C.2.1 dX12_worth_10 ?_
  obtain ⟨r2, hc4, h⟩ := bd_some h
  refine cs_i (As := [.int x1, .int 0, .int ((u.2.1 4 (0 : Int32).toNatClampNeg) - 1)]) (rest := [.ref (ad 0)]) C hK hP hS (metX12_isIn l D cy st _ x1 0 ((u.2.1 4 (0 : Int32).toNatClampNeg) - 1) hc4) (va_cwS 3 C.2.2.2.2.2.1 gX12_worth_X12_isIn rfl rfl rfl (by decide +kernel) ⟨(Nat.le_of_ble_eq_true rfl), (Nat.le_of_ble_eq_true rfl)⟩) rfl hl.1 rfl (Nat.le_of_ble_eq_true rfl) dX12_worth_11 ⟨Nat.zero_le _, Nat.zero_le _⟩ (fun H locs hP hS => ?_)
  refine lv_if_eq (tgt := 45) C.1 C.2.1 dX12_worth_14 (by decide) (fun c14 => ?_) (fun c14 => ?_)
  · rw [if_pos c14] at h
    exact wGX12_worth_0_45 C hK hJ _ _ _ _ _ _ _ _ _ _ _ h hP hS hl
  · rw [if_neg c14] at h
    refine lv_iload_n C.1 C.2.1 dX12_worth_17 rfl (lv_at hl 2 rfl) ?_
    refine lv_iload_n C.1 C.2.1 dX12_worth_18 rfl (lv_at hl 3 rfl) ?_
    refine lv_iload C.1 C.2.1 dX12_worth_19 (lv_at hl 4 rfl) ?_
    refine lv_iload C.1 C.2.1 dX12_worth_21 (lv_at hl 6 rfl) ?_
    refine lv_iload C.1 C.2.1 dX12_worth_23 (lv_at hl 7 rfl) ?_
    obtain ⟨r10, hc12, h⟩ := bd_some h
    refine cs_i (As := [.int x2, .int x3, .int x4, .int x6, .int x7]) (rest := [.ref (ad 0)]) C hK hP hS (metX12_isAim l D cy st _ x2 x3 x4 x6 x7 hc12) (va_cwS 5 C.2.2.2.2.2.1 gX12_worth_X12_isAim rfl rfl rfl (by decide +kernel) ⟨(Nat.le_of_ble_eq_true rfl), (Nat.le_of_ble_eq_true rfl)⟩) rfl hl.1 rfl (Nat.le_of_ble_eq_true rfl) dX12_worth_25 ⟨Nat.zero_le _, Nat.zero_le _⟩ (fun H locs hP hS => ?_)
    refine lv_if_eq (tgt := 45) C.1 C.2.1 dX12_worth_28 (by decide) (fun c28 => ?_) (fun c28 => ?_)
    · rw [if_pos c28] at h
      exact wGX12_worth_0_45 C hK hJ _ _ _ _ _ _ _ _ _ _ _ h hP hS hl
    · rw [if_neg c28] at h
      refine lv_iload C.1 C.2.1 dX12_worth_31 (lv_at hl 5 rfl) ?_
      refine lv_iconst (v := 0) C.1 C.2.1 dX12_worth_33 (by decide) ?_
      refine lv_iconst (v := 3) C.1 C.2.1 dX12_worth_34 (by decide) ?_
      obtain ⟨r13, hc15, h⟩ := bd_some h
      refine cs_i (As := [.int x5, .int 0, .int 3]) (rest := [.ref (ad 0)]) C hK hP hS (metX12_isIn l D cy st _ x5 0 3 hc15) (va_cwS 3 C.2.2.2.2.2.1 gX12_worth_X12_isIn rfl rfl rfl (by decide +kernel) ⟨(Nat.le_of_ble_eq_true rfl), (Nat.le_of_ble_eq_true rfl)⟩) rfl hl.1 rfl (Nat.le_of_ble_eq_true rfl) dX12_worth_35 ⟨Nat.zero_le _, Nat.zero_le _⟩ (fun H locs hP hS => ?_)
      refine lv_if_eq (tgt := 45) C.1 C.2.1 dX12_worth_38 (by decide) (fun c38 => ?_) (fun c38 => ?_)
      · rw [if_pos c38] at h
        exact wGX12_worth_0_45 C hK hJ _ _ _ _ _ _ _ _ _ _ _ h hP hS hl
      · rw [if_neg c38] at h
        refine lv_iconst (v := 0) C.1 C.2.1 dX12_worth_41 (by decide) ?_
        refine lv_goto (tgt := 46) C.1 C.2.1 dX12_worth_42 (by decide) ?_
        exact wGX12_worth_0_46 C hK hJ _ _ _ _ _ _ _ _ _ _ _ _ h hP hS hl
theorem metX12_worth_0 (l : Launch) (D : va_G) (cy : Nat → ClassId) (ad st : Nat → Nat) (hJ : JM ad) (sz : Nat) (x1 : Int32) (x2 : Int32) (x3 : Int32) (x4 : Int32) (x5 : Int32) (x6 : Int32) (x7 : Int32) {u : SX} {r : Int32} {u' : SX} (h : fX12_worth_0 x1 x2 x3 x4 x5 x6 x7 u = some (r, u')) : Met l yX12_worth wsX12_worth rmX12_worth_0 (va_Pc [.ref (ad 0), .int x1, .int x2, .int x3, .int x4, .int x5, .int x6, .int x7] (Px D [(cy 0, .int), (cy 1, .long), (cy 2, .boolean), (cy 3, .byte), (cy 4, .object "HissHorn$Text")] st (VM cy ad st) sz u)) (Qi D (VM cy ad st) (AM ad) sz r u') 0 0 (Ax (AM ad) sz) := by
  refine Met.ofW (cc := cX12_worth) (maxL := 8) (ret := (some .int)) (by decide) rfl ?_
  intro p e s m args below meth c s₁ B hml hv
  obtain ⟨rfl, hsz, hP, hK⟩ := hv
  subst hsz
  have C : Cx RX12 cX12_worth 8 (some .int) wsX12_worth p s m _ meth c := ⟨B.exec, B.bytes, hml, B.returns, findClass_of_methodNamed B.named, atoms_spec (ws := wsX12_worth) B.pre, B.notSynchronized⟩
  have hl := lv_entry ([.ref (ad 0), .int x1, .int x2, .int x3, .int x4, .int x5, .int x6, .int x7]) (n := 8) (Nat.le_of_ble_eq_true rfl)
  rw [lg_entry_eq]
  exact wX12_worth_0 C hK hJ x1 x2 x3 x4 x5 x6 x7 h hP va_S.rf hl

theorem dX12_isPart_0 : decode cX12_isPart 0 = .ok (.iload_n 1, 1) := by decide +kernel
theorem dX12_isPart_1 : decode cX12_isPart 1 = .ok (.ifCond .lt 15, 3) := by decide +kernel
theorem dX12_isPart_16 : decode cX12_isPart 16 = .ok (.iconst 0, 1) := by decide +kernel
theorem dX12_isPart_17 : decode cX12_isPart 17 = .ok (.ireturn, 1) := by decide +kernel
theorem dX12_isPart_4 : decode cX12_isPart 4 = .ok (.iload_n 1, 1) := by decide +kernel
theorem dX12_isPart_5 : decode cX12_isPart 5 = .ok (.aload_n 0, 1) := by decide +kernel
theorem dX12_isPart_6 : decode cX12_isPart 6 = .ok (.getfield 286, 3) := by decide +kernel
theorem dX12_isPart_9 : decode cX12_isPart 9 = .ok (.if_icmp .ge 7, 3) := by decide +kernel
theorem dX12_isPart_12 : decode cX12_isPart 12 = .ok (.iconst 1, 1) := by decide +kernel
theorem dX12_isPart_13 : decode cX12_isPart 13 = .ok (.goto 4, 3) := by decide +kernel
/-- HissHornModel.isPart(I)Z of cell 0 -/
def rmX12_isPart_0 : Room := { frames := 0, cells := 0, slots := 0, locals := 0 }
theorem hX12_isPart_0_X12 : ∀ w ∈ u_ws RX12 TX12 69, w ∈ wsX12_isPart := fun w h => (List.mem_cons_of_mem _ (List.mem_append_right _ h))
theorem mX12_isPart_0_1 : Cond.fieldLink RX12 286 "HissHornModel" "parts" "I" ∈ wsX12_isPart := (List.mem_cons_of_mem _ (List.mem_append_left _ (List.mem_of_getElem? (i := 0) rfl)))
def fX12_isPart_0 (x1 : Int32) (u : SX) : Option (Int32 × SX) := (if x1 < 0 then (gd (isB 0) (some (0, u))) else (if (u.1 12) ≤ x1 then (gd (isB 0) (some (0, u))) else (gd (isB 1) (some (1, u)))))
set_option maxHeartbeats 4000000 in
set_option maxRecDepth 100000 in
theorem wX12_isPart_0 {p : Program} {l : Launch} {e : Env} {s : State} {m : MethodId} {args : Array Value} {below : List Frame} {meth : Method} {c : Code} {D : va_G} {cy : Nat → ClassId} {ad st : Nat → Nat} (C : Cx RX12 cX12_isPart 2 (some .boolean) wsX12_isPart p s m args meth c) (hK : Kx D [(cy 0, .int), (cy 1, .long), (cy 2, .boolean), (cy 3, .byte), (cy 4, .object "HissHorn$Text")] st s) (hJ : JM ad) (x1 : Int32) {u : SX} {r : Int32} {u' : SX} {H : Heap} {locs : List Loc} {ls : Array Slot} (h : fX12_isPart_0 x1 u = some (r, u')) (hP : va_P D vwCl (VM cy ad st u) H) (hS : va_S (Ax (AM ad) s.heap.size) s.heap H locs) (hl : lv_has ls 2 [(0, .ref (ad 0)), (1, .int x1)]) : W p l e rmX12_isPart_0 s m args below meth c H locs 0 0 (MQ below (Qi D (VM cy ad st) (AM ad) s.heap.size r u') args s 0 0 (Ax (AM ad) s.heap.size)) (F0 m 0 ls []) := by
  unfold fX12_isPart_0 at h
  refine lv_iload_n C.1 C.2.1 dX12_isPart_0 rfl (lv_at hl 1 rfl) ?_
  refine lv_if_lt (tgt := 16) C.1 C.2.1 dX12_isPart_1 (by decide) (fun c1 => ?_) (fun c1 => ?_)
  · rw [if_pos c1] at h
    refine lv_iconst (v := 0) C.1 C.2.1 dX12_isPart_16 (by decide) ?_
    obtain ⟨hg1, h⟩ := gd_some h
    cases h
    exact rt_z hg1 C hP hS dX12_isPart_17
  · rw [if_neg c1] at h
    refine lv_iload_n C.1 C.2.1 dX12_isPart_4 rfl (lv_at hl 1 rfl) ?_
    refine lv_aload_n C.1 C.2.1 dX12_isPart_5 rfl (lv_at hl 0 rfl) ?_
    refine gM_0_parts C hX12_isPart_0_X12 hK hP mX12_isPart_0_1 dX12_isPart_6 ?_
    refine lv_icmp_ge (tgt := 16) C.1 C.2.1 dX12_isPart_9 (by decide) (fun c9 => ?_) (fun c9 => ?_)
    · rw [if_pos c9] at h
      refine lv_iconst (v := 0) C.1 C.2.1 dX12_isPart_16 (by decide) ?_
      obtain ⟨hg2, h⟩ := gd_some h
      cases h
      exact rt_z hg2 C hP hS dX12_isPart_17
    · rw [if_neg c9] at h
      refine lv_iconst (v := 1) C.1 C.2.1 dX12_isPart_12 (by decide) ?_
      refine lv_goto (tgt := 17) C.1 C.2.1 dX12_isPart_13 (by decide) ?_
      obtain ⟨hg3, h⟩ := gd_some h
      cases h
      exact rt_z hg3 C hP hS dX12_isPart_17
theorem metX12_isPart_0 (l : Launch) (D : va_G) (cy : Nat → ClassId) (ad st : Nat → Nat) (hJ : JM ad) (sz : Nat) (x1 : Int32) {u : SX} {r : Int32} {u' : SX} (h : fX12_isPart_0 x1 u = some (r, u')) : Met l yX12_isPart wsX12_isPart rmX12_isPart_0 (va_Pc [.ref (ad 0), .int x1] (Px D [(cy 0, .int), (cy 1, .long), (cy 2, .boolean), (cy 3, .byte), (cy 4, .object "HissHorn$Text")] st (VM cy ad st) sz u)) (Qi D (VM cy ad st) (AM ad) sz r u') 0 0 (Ax (AM ad) sz) := by
  refine Met.ofW (cc := cX12_isPart) (maxL := 2) (ret := (some .boolean)) (by decide) rfl ?_
  intro p e s m args below meth c s₁ B hml hv
  obtain ⟨rfl, hsz, hP, hK⟩ := hv
  subst hsz
  have C : Cx RX12 cX12_isPart 2 (some .boolean) wsX12_isPart p s m _ meth c := ⟨B.exec, B.bytes, hml, B.returns, findClass_of_methodNamed B.named, atoms_spec (ws := wsX12_isPart) B.pre, B.notSynchronized⟩
  have hl := lv_entry ([.ref (ad 0), .int x1]) (n := 2) (Nat.le_of_ble_eq_true rfl)
  rw [lg_entry_eq]
  exact wX12_isPart_0 C hK hJ x1 h hP va_S.rf hl

theorem dX12_isSpan_0 : decode cX12_isSpan 0 = .ok (.iload_n 0, 1) := by decide +kernel
theorem dX12_isSpan_1 : decode cX12_isSpan 1 = .ok (.iconst 0, 1) := by decide +kernel
theorem dX12_isSpan_2 : decode cX12_isSpan 2 = .ok (.sipush 400, 3) := by decide +kernel
set_option maxRecDepth 20000 in
theorem ggX12_isSpan_X12_isIn : GoodIn wsX12_isSpan wsX12_isIn := goodIn_r _ [4] (by decide +kernel) (by decide +kernel)
set_option maxRecDepth 20000 in
theorem gX12_isSpan_X12_isIn : GoodIn wsX12_isSpan (va_wsS RX12 155 yX12_isIn wsX12_isIn) := goodIn_app (goodIn_of _ (by decide +kernel)) ggX12_isSpan_X12_isIn
theorem dX12_isSpan_5 : decode cX12_isSpan 5 = .ok (.invokestatic 155, 3) := by decide +kernel
theorem dX12_isSpan_8 : decode cX12_isSpan 8 = .ok (.ifCond .eq 18, 3) := by decide +kernel
theorem dX12_isSpan_26 : decode cX12_isSpan 26 = .ok (.iconst 0, 1) := by decide +kernel
theorem dX12_isSpan_27 : decode cX12_isSpan 27 = .ok (.ireturn, 1) := by decide +kernel
theorem dX12_isSpan_11 : decode cX12_isSpan 11 = .ok (.iload_n 1, 1) := by decide +kernel
theorem dX12_isSpan_12 : decode cX12_isSpan 12 = .ok (.iload_n 0, 1) := by decide +kernel
theorem dX12_isSpan_13 : decode cX12_isSpan 13 = .ok (.sipush 400, 3) := by decide +kernel
theorem dX12_isSpan_16 : decode cX12_isSpan 16 = .ok (.invokestatic 155, 3) := by decide +kernel
theorem dX12_isSpan_19 : decode cX12_isSpan 19 = .ok (.ifCond .eq 7, 3) := by decide +kernel
theorem dX12_isSpan_22 : decode cX12_isSpan 22 = .ok (.iconst 1, 1) := by decide +kernel
theorem dX12_isSpan_23 : decode cX12_isSpan 23 = .ok (.goto 4, 3) := by decide +kernel
/-- HissHornModel.isSpan(II)Z -/
def rmX12_isSpan : Room := { frames := 1, cells := 0, slots := 0, locals := 22 }
def fX12_isSpan (x0 : Int32) (x1 : Int32) : Option Int32 := ((fX12_isIn x0 0 400).bind fun r1 => (if r1 = 0 then (gd (isB 0) (some 0)) else ((fX12_isIn x1 x0 400).bind fun r5 => (if r5 = 0 then (gd (isB 0) (some 0)) else (gd (isB 1) (some 1))))))
set_option maxHeartbeats 4000000 in
set_option maxRecDepth 100000 in
theorem wX12_isSpan {p : Program} {l : Launch} {e : Env} {s : State} {m : MethodId} {args : Array Value} {below : List Frame} {meth : Method} {c : Code} {D : va_G} {cy : Nat → ClassId} {st : Nat → Nat} (C : Cx RX12 cX12_isSpan 2 (some .boolean) wsX12_isSpan p s m args meth c) (hK : Kx D [(cy 0, .int), (cy 1, .long), (cy 2, .boolean), (cy 3, .byte), (cy 4, .object "HissHorn$Text")] st s) (x0 : Int32) (x1 : Int32) {r : Int32} {H : Heap} {locs : List Loc} {ls : Array Slot} (h : fX12_isSpan x0 x1 = some r) (hP : va_P D vwCl (V0 u00) H) (hS : va_S (Ax (A0) s.heap.size) s.heap H locs) (hl : lv_has ls 2 [(0, .int x0), (1, .int x1)]) : W p l e rmX12_isSpan s m args below meth c H locs 0 0 (MQ below (Qi D (V0) (A0) s.heap.size r u00) args s 0 0 (Ax (A0) s.heap.size)) (F0 m 0 ls []) := by
  unfold fX12_isSpan at h
  refine lv_iload_n C.1 C.2.1 dX12_isSpan_0 rfl (lv_at hl 0 rfl) ?_
  refine lv_iconst (v := 0) C.1 C.2.1 dX12_isSpan_1 (by decide) ?_
  refine lv_sipush (v := 400) C.1 C.2.1 dX12_isSpan_2 (by decide) ?_
  obtain ⟨r1, hc3, h⟩ := bd_some h
  refine cs_i (As := [.int x0, .int 0, .int 400]) (rest := []) C hK hP hS (metX12_isIn l D cy st _ x0 0 400 hc3) (va_cwS 3 C.2.2.2.2.2.1 gX12_isSpan_X12_isIn rfl rfl rfl (by decide +kernel) ⟨(Nat.le_of_ble_eq_true rfl), (Nat.le_of_ble_eq_true rfl)⟩) rfl hl.1 rfl (Nat.le_of_ble_eq_true rfl) dX12_isSpan_5 ⟨Nat.zero_le _, Nat.zero_le _⟩ (fun H locs hP hS => ?_)
  refine lv_if_eq (tgt := 26) C.1 C.2.1 dX12_isSpan_8 (by decide) (fun c8 => ?_) (fun c8 => ?_)
  · rw [if_pos c8] at h
    refine lv_iconst (v := 0) C.1 C.2.1 dX12_isSpan_26 (by decide) ?_
    obtain ⟨hg4, h⟩ := gd_some h
    cases h
    exact rt_z hg4 C hP hS dX12_isSpan_27
  · rw [if_neg c8] at h
    refine lv_iload_n C.1 C.2.1 dX12_isSpan_11 rfl (lv_at hl 1 rfl) ?_
    refine lv_iload_n C.1 C.2.1 dX12_isSpan_12 rfl (lv_at hl 0 rfl) ?_
    refine lv_sipush (v := 400) C.1 C.2.1 dX12_isSpan_13 (by decide) ?_
    obtain ⟨r5, hc7, h⟩ := bd_some h
    refine cs_i (As := [.int x1, .int x0, .int 400]) (rest := []) C hK hP hS (metX12_isIn l D cy st _ x1 x0 400 hc7) (va_cwS 3 C.2.2.2.2.2.1 gX12_isSpan_X12_isIn rfl rfl rfl (by decide +kernel) ⟨(Nat.le_of_ble_eq_true rfl), (Nat.le_of_ble_eq_true rfl)⟩) rfl hl.1 rfl (Nat.le_of_ble_eq_true rfl) dX12_isSpan_16 ⟨Nat.zero_le _, Nat.zero_le _⟩ (fun H locs hP hS => ?_)
    refine lv_if_eq (tgt := 26) C.1 C.2.1 dX12_isSpan_19 (by decide) (fun c19 => ?_) (fun c19 => ?_)
    · rw [if_pos c19] at h
      refine lv_iconst (v := 0) C.1 C.2.1 dX12_isSpan_26 (by decide) ?_
      obtain ⟨hg8, h⟩ := gd_some h
      cases h
      exact rt_z hg8 C hP hS dX12_isSpan_27
    · rw [if_neg c19] at h
      refine lv_iconst (v := 1) C.1 C.2.1 dX12_isSpan_22 (by decide) ?_
      refine lv_goto (tgt := 27) C.1 C.2.1 dX12_isSpan_23 (by decide) ?_
      obtain ⟨hg9, h⟩ := gd_some h
      cases h
      exact rt_z hg9 C hP hS dX12_isSpan_27
theorem metX12_isSpan (l : Launch) (D : va_G) (cy : Nat → ClassId) (st : Nat → Nat) (sz : Nat) (x0 : Int32) (x1 : Int32) {r : Int32} (h : fX12_isSpan x0 x1 = some r) : Met l yX12_isSpan wsX12_isSpan rmX12_isSpan (va_Pc [.int x0, .int x1] (Px D [(cy 0, .int), (cy 1, .long), (cy 2, .boolean), (cy 3, .byte), (cy 4, .object "HissHorn$Text")] st V0 sz u00)) (Qi D V0 A0 sz r u00) 0 0 (Ax A0 sz) := by
  refine Met.ofW (cc := cX12_isSpan) (maxL := 2) (ret := (some .boolean)) (by decide) rfl ?_
  intro p e s m args below meth c s₁ B hml hv
  obtain ⟨rfl, hsz, hP, hK⟩ := hv
  subst hsz
  have C : Cx RX12 cX12_isSpan 2 (some .boolean) wsX12_isSpan p s m _ meth c := ⟨B.exec, B.bytes, hml, B.returns, findClass_of_methodNamed B.named, atoms_spec (ws := wsX12_isSpan) B.pre, B.notSynchronized⟩
  have hl := lv_entry ([.int x0, .int x1]) (n := 2) (Nat.le_of_ble_eq_true rfl)
  rw [lg_entry_eq]
  exact wX12_isSpan C hK x0 x1 h hP va_S.rf hl

theorem dX12_part__0 : decode cX12_part_ 0 = .ok (.aload_n 0, 1) := by decide +kernel
theorem dX12_part__1 : decode cX12_part_ 1 = .ok (.iconst 0, 1) := by decide +kernel
theorem dX12_part__2 : decode cX12_part_ 2 = .ok (.putfield 151, 3) := by decide +kernel
theorem dX12_part__5 : decode cX12_part_ 5 = .ok (.aload_n 0, 1) := by decide +kernel
theorem dX12_part__6 : decode cX12_part_ 6 = .ok (.getfield 286, 3) := by decide +kernel
theorem dX12_part__9 : decode cX12_part_ 9 = .ok (.bipush 12, 2) := by decide +kernel
theorem dX12_part__11 : decode cX12_part_ 11 = .ok (.if_icmp .eq 39, 3) := by decide +kernel
theorem dX12_part__50 : decode cX12_part_ 50 = .ok (.iconst (-1), 1) := by decide +kernel
theorem dX12_part__51 : decode cX12_part_ 51 = .ok (.ireturn, 1) := by decide +kernel
theorem dX12_part__14 : decode cX12_part_ 14 = .ok (.iload_n 1, 1) := by decide +kernel
theorem dX12_part__15 : decode cX12_part_ 15 = .ok (.iconst 0, 1) := by decide +kernel
theorem dX12_part__16 : decode cX12_part_ 16 = .ok (.aload_n 0, 1) := by decide +kernel
theorem dX12_part__17 : decode cX12_part_ 17 = .ok (.getfield 20, 3) := by decide +kernel
theorem dX12_part__20 : decode cX12_part_ 20 = .ok (.iconst 0, 1) := by decide +kernel
theorem dX12_part__21 : decode cX12_part_ 21 = .ok (.iaload, 1) := by decide +kernel
theorem dX12_part__22 : decode cX12_part_ 22 = .ok (.iconst 1, 1) := by decide +kernel
theorem dX12_part__23 : decode cX12_part_ 23 = .ok (.isub, 1) := by decide +kernel
set_option maxRecDepth 20000 in
theorem ggX12_part__X12_isIn : GoodIn wsX12_part_ wsX12_isIn := goodIn_r _ [13] (by decide +kernel) (by decide +kernel)
set_option maxRecDepth 20000 in
theorem gX12_part__X12_isIn : GoodIn wsX12_part_ (va_wsS RX12 155 yX12_isIn wsX12_isIn) := goodIn_app (goodIn_of _ (by decide +kernel)) ggX12_part__X12_isIn
theorem dX12_part__24 : decode cX12_part_ 24 = .ok (.invokestatic 155, 3) := by decide +kernel
theorem dX12_part__27 : decode cX12_part_ 27 = .ok (.ifCond .eq 23, 3) := by decide +kernel
theorem dX12_part__30 : decode cX12_part_ 30 = .ok (.iload_n 2, 1) := by decide +kernel
theorem dX12_part__31 : decode cX12_part_ 31 = .ok (.iload_n 3, 1) := by decide +kernel
set_option maxRecDepth 20000 in
theorem ggX12_part__X12_isSpan : GoodIn wsX12_part_ wsX12_isSpan := goodIn_r _ [16, 10, 11, 12, 13] (by decide +kernel) (by decide +kernel)
set_option maxRecDepth 20000 in
theorem gX12_part__X12_isSpan : GoodIn wsX12_part_ (va_wsS RX12 289 yX12_isSpan wsX12_isSpan) := goodIn_app (goodIn_of _ (by decide +kernel)) ggX12_part__X12_isSpan
theorem dX12_part__32 : decode cX12_part_ 32 = .ok (.invokestatic 289, 3) := by decide +kernel
theorem dX12_part__35 : decode cX12_part_ 35 = .ok (.ifCond .eq 15, 3) := by decide +kernel
theorem dX12_part__38 : decode cX12_part_ 38 = .ok (.iload 4, 2) := by decide +kernel
theorem dX12_part__40 : decode cX12_part_ 40 = .ok (.iconst 0, 1) := by decide +kernel
theorem dX12_part__41 : decode cX12_part_ 41 = .ok (.sipush 400, 3) := by decide +kernel
theorem dX12_part__44 : decode cX12_part_ 44 = .ok (.invokestatic 155, 3) := by decide +kernel
theorem dX12_part__47 : decode cX12_part_ 47 = .ok (.ifCond .ne 5, 3) := by decide +kernel
theorem dX12_part__52 : decode cX12_part_ 52 = .ok (.aload_n 0, 1) := by decide +kernel
theorem dX12_part__53 : decode cX12_part_ 53 = .ok (.getfield 35, 3) := by decide +kernel
theorem dX12_part__56 : decode cX12_part_ 56 = .ok (.aload_n 0, 1) := by decide +kernel
theorem dX12_part__57 : decode cX12_part_ 57 = .ok (.getfield 286, 3) := by decide +kernel
theorem dX12_part__60 : decode cX12_part_ 60 = .ok (.iload_n 1, 1) := by decide +kernel
theorem dX12_part__61 : decode cX12_part_ 61 = .ok (.iastore, 1) := by decide +kernel
theorem dX12_part__62 : decode cX12_part_ 62 = .ok (.aload_n 0, 1) := by decide +kernel
theorem dX12_part__63 : decode cX12_part_ 63 = .ok (.getfield 38, 3) := by decide +kernel
theorem dX12_part__66 : decode cX12_part_ 66 = .ok (.aload_n 0, 1) := by decide +kernel
theorem dX12_part__67 : decode cX12_part_ 67 = .ok (.getfield 286, 3) := by decide +kernel
theorem dX12_part__70 : decode cX12_part_ 70 = .ok (.iload_n 2, 1) := by decide +kernel
theorem dX12_part__71 : decode cX12_part_ 71 = .ok (.iastore, 1) := by decide +kernel
theorem dX12_part__72 : decode cX12_part_ 72 = .ok (.aload_n 0, 1) := by decide +kernel
theorem dX12_part__73 : decode cX12_part_ 73 = .ok (.getfield 41, 3) := by decide +kernel
theorem dX12_part__76 : decode cX12_part_ 76 = .ok (.aload_n 0, 1) := by decide +kernel
theorem dX12_part__77 : decode cX12_part_ 77 = .ok (.getfield 286, 3) := by decide +kernel
theorem dX12_part__80 : decode cX12_part_ 80 = .ok (.iload_n 3, 1) := by decide +kernel
theorem dX12_part__81 : decode cX12_part_ 81 = .ok (.iastore, 1) := by decide +kernel
theorem dX12_part__82 : decode cX12_part_ 82 = .ok (.aload_n 0, 1) := by decide +kernel
theorem dX12_part__83 : decode cX12_part_ 83 = .ok (.getfield 44, 3) := by decide +kernel
theorem dX12_part__86 : decode cX12_part_ 86 = .ok (.aload_n 0, 1) := by decide +kernel
theorem dX12_part__87 : decode cX12_part_ 87 = .ok (.getfield 286, 3) := by decide +kernel
theorem dX12_part__90 : decode cX12_part_ 90 = .ok (.iload 4, 2) := by decide +kernel
theorem dX12_part__92 : decode cX12_part_ 92 = .ok (.iastore, 1) := by decide +kernel
theorem dX12_part__93 : decode cX12_part_ 93 = .ok (.aload_n 0, 1) := by decide +kernel
theorem dX12_part__94 : decode cX12_part_ 94 = .ok (.getfield 47, 3) := by decide +kernel
theorem dX12_part__97 : decode cX12_part_ 97 = .ok (.aload_n 0, 1) := by decide +kernel
theorem dX12_part__98 : decode cX12_part_ 98 = .ok (.getfield 286, 3) := by decide +kernel
theorem dX12_part__101 : decode cX12_part_ 101 = .ok (.aload_n 0, 1) := by decide +kernel
theorem dX12_part__102 : decode cX12_part_ 102 = .ok (.getfield 159, 3) := by decide +kernel
theorem dX12_part__105 : decode cX12_part_ 105 = .ok (.iastore, 1) := by decide +kernel
theorem dX12_part__106 : decode cX12_part_ 106 = .ok (.aload_n 0, 1) := by decide +kernel
theorem dX12_part__107 : decode cX12_part_ 107 = .ok (.dup, 1) := by decide +kernel
theorem dX12_part__108 : decode cX12_part_ 108 = .ok (.getfield 286, 3) := by decide +kernel
theorem dX12_part__111 : decode cX12_part_ 111 = .ok (.iconst 1, 1) := by decide +kernel
theorem dX12_part__112 : decode cX12_part_ 112 = .ok (.iadd, 1) := by decide +kernel
theorem dX12_part__113 : decode cX12_part_ 113 = .ok (.putfield 286, 3) := by decide +kernel
theorem dX12_part__116 : decode cX12_part_ 116 = .ok (.aload_n 0, 1) := by decide +kernel
theorem dX12_part__117 : decode cX12_part_ 117 = .ok (.getfield 286, 3) := by decide +kernel
theorem dX12_part__120 : decode cX12_part_ 120 = .ok (.iconst 1, 1) := by decide +kernel
theorem dX12_part__121 : decode cX12_part_ 121 = .ok (.isub, 1) := by decide +kernel
theorem dX12_part__122 : decode cX12_part_ 122 = .ok (.ireturn, 1) := by decide +kernel
/-- HissHornModel.part(IIII)I of cell 0 -/
def rmX12_part__0 : Room := { frames := 2, cells := 0, slots := 0, locals := 43 }
theorem hX12_part__0_X12 : ∀ w ∈ u_ws RX12 TX12 69, w ∈ wsX12_part_ := fun w h => (List.mem_cons_of_mem _ (List.mem_append_right _ h))
theorem mX12_part__0_1 : Cond.fieldLink RX12 151 "HissHornModel" "thrown" "I" ∈ wsX12_part_ := (List.mem_cons_of_mem _ (List.mem_append_left _ (List.mem_of_getElem? (i := 0) rfl)))
theorem mX12_part__0_2 : Cond.fieldLink RX12 286 "HissHornModel" "parts" "I" ∈ wsX12_part_ := (List.mem_cons_of_mem _ (List.mem_append_left _ (List.mem_of_getElem? (i := 1) rfl)))
theorem mX12_part__0_3 : Cond.fieldLink RX12 20 "HissHornModel" "textMany" "[I" ∈ wsX12_part_ := (List.mem_cons_of_mem _ (List.mem_append_left _ (List.mem_of_getElem? (i := 2) rfl)))
theorem mX12_part__0_4 : Cond.fieldLink RX12 35 "HissHornModel" "partLaw" "[I" ∈ wsX12_part_ := (List.mem_cons_of_mem _ (List.mem_append_left _ (List.mem_of_getElem? (i := 3) rfl)))
theorem mX12_part__0_5 : Cond.fieldLink RX12 38 "HissHornModel" "partFrom" "[I" ∈ wsX12_part_ := (List.mem_cons_of_mem _ (List.mem_append_left _ (List.mem_of_getElem? (i := 4) rfl)))
theorem mX12_part__0_6 : Cond.fieldLink RX12 41 "HissHornModel" "partTo" "[I" ∈ wsX12_part_ := (List.mem_cons_of_mem _ (List.mem_append_left _ (List.mem_of_getElem? (i := 5) rfl)))
theorem mX12_part__0_7 : Cond.fieldLink RX12 44 "HissHornModel" "truly" "[I" ∈ wsX12_part_ := (List.mem_cons_of_mem _ (List.mem_append_left _ (List.mem_of_getElem? (i := 6) rfl)))
theorem mX12_part__0_8 : Cond.fieldLink RX12 47 "HissHornModel" "partTold" "[I" ∈ wsX12_part_ := (List.mem_cons_of_mem _ (List.mem_append_left _ (List.mem_of_getElem? (i := 7) rfl)))
theorem mX12_part__0_9 : Cond.fieldLink RX12 159 "HissHornModel" "now" "I" ∈ wsX12_part_ := (List.mem_cons_of_mem _ (List.mem_append_left _ (List.mem_of_getElem? (i := 8) rfl)))
def fX12_part__0 (x1 : Int32) (x2 : Int32) (x3 : Int32) (x4 : Int32) (u : SX) : Option (Int32 × SX) := (lt (sI u 0 0) fun u1 => (if (u1.1 12) = 12 then (some ((-1), u1)) else (gd (inb 0 3) ((fX12_isIn x1 0 ((u1.2.1 4 (0 : Int32).toNatClampNeg) - 1)).bind fun r4 => (if r4 = 0 then (some ((-1), u1)) else ((fX12_isSpan x2 x3).bind fun r7 => (if r7 = 0 then (some ((-1), u1)) else ((fX12_isIn x4 0 400).bind fun r10 => (if r10 = 0 then (some ((-1), u1)) else (gd (inb (u1.1 12) 12) (lt (sA u1 6 (upd (u1.2.1 6) (u1.1 12).toNatClampNeg x1)) fun u14 => (gd (inb (u14.1 12) 12) (lt (sA u14 7 (upd (u14.2.1 7) (u14.1 12).toNatClampNeg x2)) fun u17 => (gd (inb (u17.1 12) 12) (lt (sA u17 8 (upd (u17.2.1 8) (u17.1 12).toNatClampNeg x3)) fun u20 => (gd (inb (u20.1 12) 12) (lt (sA u20 9 (upd (u20.2.1 9) (u20.1 12).toNatClampNeg x4)) fun u23 => (gd (inb (u23.1 12) 12) (lt (sA u23 10 (upd (u23.2.1 10) (u23.1 12).toNatClampNeg (u23.1 1))) fun u26 => (lt (sI u26 12 ((u26.1 12) + 1)) fun u28 => (some ((u28.1 12) - 1, u28))))))))))))))))))))))
set_option maxHeartbeats 4000000 in
set_option maxRecDepth 100000 in
theorem wX12_part__0 {p : Program} {l : Launch} {e : Env} {s : State} {m : MethodId} {args : Array Value} {below : List Frame} {meth : Method} {c : Code} {D : va_G} {cy : Nat → ClassId} {ad st : Nat → Nat} (C : Cx RX12 cX12_part_ 5 (some .int) wsX12_part_ p s m args meth c) (hK : Kx D [(cy 0, .int), (cy 1, .long), (cy 2, .boolean), (cy 3, .byte), (cy 4, .object "HissHorn$Text")] st s) (hJ : JM ad) (x1 : Int32) (x2 : Int32) (x3 : Int32) (x4 : Int32) {u : SX} {r : Int32} {u' : SX} {H : Heap} {locs : List Loc} {ls : Array Slot} (h : fX12_part__0 x1 x2 x3 x4 u = some (r, u')) (hP : va_P D vwCl (VM cy ad st u) H) (hS : va_S (Ax (AM ad) s.heap.size) s.heap H locs) (hl : lv_has ls 5 [(0, .ref (ad 0)), (1, .int x1), (2, .int x2), (3, .int x3), (4, .int x4)]) : W p l e rmX12_part__0 s m args below meth c H locs 0 0 (MQ below (Qi D (VM cy ad st) (AM ad) s.heap.size r u') args s 0 0 (Ax (AM ad) s.heap.size)) (F0 m 0 ls []) := by
  unfold fX12_part__0 at h
  refine lv_aload_n C.1 C.2.1 dX12_part__0 rfl (lv_at hl 0 rfl) ?_
  refine lv_iconst (v := 0) C.1 C.2.1 dX12_part__1 (by decide) ?_
  refine pM_0_thrown C hX12_part__0_X12 hK hP hJ hS mX12_part__0_1 dX12_part__2 (fun H locs hP hS => ?_)
  obtain ⟨u1, hu2, h⟩ := lt_some h
  rw [← hu2] at hP
  refine lv_aload_n C.1 C.2.1 dX12_part__5 rfl (lv_at hl 0 rfl) ?_
  refine gM_0_parts C hX12_part__0_X12 hK hP mX12_part__0_2 dX12_part__6 ?_
  refine lv_bipush (v := 12) C.1 C.2.1 dX12_part__9 (by decide) ?_
  refine lv_icmp_eq (tgt := 50) C.1 C.2.1 dX12_part__11 (by decide) (fun c11 => ?_) (fun c11 => ?_)
  · rw [if_pos c11] at h
    refine lv_iconst (v := (-1)) C.1 C.2.1 dX12_part__50 (by decide) ?_
    cases h
    exact rt_i C hP hS dX12_part__51
  · rw [if_neg c11] at h
    refine lv_iload_n C.1 C.2.1 dX12_part__14 rfl (lv_at hl 1 rfl) ?_
    refine lv_iconst (v := 0) C.1 C.2.1 dX12_part__15 (by decide) ?_
    refine lv_aload_n C.1 C.2.1 dX12_part__16 rfl (lv_at hl 0 rfl) ?_
    refine gM_0_textMany C hX12_part__0_X12 hK hP mX12_part__0_3 dX12_part__17 ?_
    refine lv_iconst (v := 0) C.1 C.2.1 dX12_part__20 (by decide) ?_
    obtain ⟨hg3, h⟩ := gd_some h
    refine lM_4 C hK hP hg3 dX12_part__21 ?_
    refine lv_iconst (v := 1) C.1 C.2.1 dX12_part__22 (by decide) ?_
    refine lv_isub C.1 C.2.1 dX12_part__23 ?_
    obtain ⟨r4, hc6, h⟩ := bd_some h
    refine cs_i (As := [.int x1, .int 0, .int ((u1.2.1 4 (0 : Int32).toNatClampNeg) - 1)]) (rest := []) C hK hP hS (metX12_isIn l D cy st _ x1 0 ((u1.2.1 4 (0 : Int32).toNatClampNeg) - 1) hc6) (va_cwS 3 C.2.2.2.2.2.1 gX12_part__X12_isIn rfl rfl rfl (by decide +kernel) ⟨(Nat.le_of_ble_eq_true rfl), (Nat.le_of_ble_eq_true rfl)⟩) rfl hl.1 rfl (Nat.le_of_ble_eq_true rfl) dX12_part__24 ⟨Nat.zero_le _, Nat.zero_le _⟩ (fun H locs hP hS => ?_)
    refine lv_if_eq (tgt := 50) C.1 C.2.1 dX12_part__27 (by decide) (fun c27 => ?_) (fun c27 => ?_)
    · rw [if_pos c27] at h
      refine lv_iconst (v := (-1)) C.1 C.2.1 dX12_part__50 (by decide) ?_
      cases h
      exact rt_i C hP hS dX12_part__51
    · rw [if_neg c27] at h
      refine lv_iload_n C.1 C.2.1 dX12_part__30 rfl (lv_at hl 2 rfl) ?_
      refine lv_iload_n C.1 C.2.1 dX12_part__31 rfl (lv_at hl 3 rfl) ?_
      obtain ⟨r7, hc9, h⟩ := bd_some h
      refine cs_i (As := [.int x2, .int x3]) (rest := []) C hK hP hS (metX12_isSpan l D cy st _ x2 x3 hc9) (va_cwS 2 C.2.2.2.2.2.1 gX12_part__X12_isSpan rfl rfl rfl (by decide +kernel) ⟨(Nat.le_of_ble_eq_true rfl), (Nat.le_of_ble_eq_true rfl)⟩) rfl hl.1 rfl (Nat.le_of_ble_eq_true rfl) dX12_part__32 ⟨Nat.zero_le _, Nat.zero_le _⟩ (fun H locs hP hS => ?_)
      refine lv_if_eq (tgt := 50) C.1 C.2.1 dX12_part__35 (by decide) (fun c35 => ?_) (fun c35 => ?_)
      · rw [if_pos c35] at h
        refine lv_iconst (v := (-1)) C.1 C.2.1 dX12_part__50 (by decide) ?_
        cases h
        exact rt_i C hP hS dX12_part__51
      · rw [if_neg c35] at h
        refine lv_iload C.1 C.2.1 dX12_part__38 (lv_at hl 4 rfl) ?_
        refine lv_iconst (v := 0) C.1 C.2.1 dX12_part__40 (by decide) ?_
        refine lv_sipush (v := 400) C.1 C.2.1 dX12_part__41 (by decide) ?_
        obtain ⟨r10, hc12, h⟩ := bd_some h
        refine cs_i (As := [.int x4, .int 0, .int 400]) (rest := []) C hK hP hS (metX12_isIn l D cy st _ x4 0 400 hc12) (va_cwS 3 C.2.2.2.2.2.1 gX12_part__X12_isIn rfl rfl rfl (by decide +kernel) ⟨(Nat.le_of_ble_eq_true rfl), (Nat.le_of_ble_eq_true rfl)⟩) rfl hl.1 rfl (Nat.le_of_ble_eq_true rfl) dX12_part__44 ⟨Nat.zero_le _, Nat.zero_le _⟩ (fun H locs hP hS => ?_)
        refine lv_if_ne (tgt := 52) C.1 C.2.1 dX12_part__47 (by decide) (fun c47 => ?_) (fun c47 => ?_)
        · rw [if_neg c47] at h
          refine lv_aload_n C.1 C.2.1 dX12_part__52 rfl (lv_at hl 0 rfl) ?_
          refine gM_0_partLaw C hX12_part__0_X12 hK hP mX12_part__0_4 dX12_part__53 ?_
          refine lv_aload_n C.1 C.2.1 dX12_part__56 rfl (lv_at hl 0 rfl) ?_
          refine gM_0_parts C hX12_part__0_X12 hK hP mX12_part__0_2 dX12_part__57 ?_
          refine lv_iload_n C.1 C.2.1 dX12_part__60 rfl (lv_at hl 1 rfl) ?_
          obtain ⟨hg13, h⟩ := gd_some h
          refine tM_6 C hK hP hJ hS hg13 dX12_part__61 (fun H locs hP hS => ?_)
          obtain ⟨u14, hu15, h⟩ := lt_some h
          rw [← hu15] at hP
          refine lv_aload_n C.1 C.2.1 dX12_part__62 rfl (lv_at hl 0 rfl) ?_
          refine gM_0_partFrom C hX12_part__0_X12 hK hP mX12_part__0_5 dX12_part__63 ?_
          refine lv_aload_n C.1 C.2.1 dX12_part__66 rfl (lv_at hl 0 rfl) ?_
          refine gM_0_parts C hX12_part__0_X12 hK hP mX12_part__0_2 dX12_part__67 ?_
          refine lv_iload_n C.1 C.2.1 dX12_part__70 rfl (lv_at hl 2 rfl) ?_
          obtain ⟨hg16, h⟩ := gd_some h
          refine tM_7 C hK hP hJ hS hg16 dX12_part__71 (fun H locs hP hS => ?_)
          obtain ⟨u17, hu18, h⟩ := lt_some h
          rw [← hu18] at hP
          refine lv_aload_n C.1 C.2.1 dX12_part__72 rfl (lv_at hl 0 rfl) ?_
          refine gM_0_partTo C hX12_part__0_X12 hK hP mX12_part__0_6 dX12_part__73 ?_
          refine lv_aload_n C.1 C.2.1 dX12_part__76 rfl (lv_at hl 0 rfl) ?_
          refine gM_0_parts C hX12_part__0_X12 hK hP mX12_part__0_2 dX12_part__77 ?_
          refine lv_iload_n C.1 C.2.1 dX12_part__80 rfl (lv_at hl 3 rfl) ?_
          obtain ⟨hg19, h⟩ := gd_some h
          refine tM_8 C hK hP hJ hS hg19 dX12_part__81 (fun H locs hP hS => ?_)
          obtain ⟨u20, hu21, h⟩ := lt_some h
          rw [← hu21] at hP
          refine lv_aload_n C.1 C.2.1 dX12_part__82 rfl (lv_at hl 0 rfl) ?_
          refine gM_0_truly C hX12_part__0_X12 hK hP mX12_part__0_7 dX12_part__83 ?_
          refine lv_aload_n C.1 C.2.1 dX12_part__86 rfl (lv_at hl 0 rfl) ?_
          refine gM_0_parts C hX12_part__0_X12 hK hP mX12_part__0_2 dX12_part__87 ?_
          refine lv_iload C.1 C.2.1 dX12_part__90 (lv_at hl 4 rfl) ?_
          obtain ⟨hg22, h⟩ := gd_some h
          refine tM_9 C hK hP hJ hS hg22 dX12_part__92 (fun H locs hP hS => ?_)
          obtain ⟨u23, hu24, h⟩ := lt_some h
          rw [← hu24] at hP
          refine lv_aload_n C.1 C.2.1 dX12_part__93 rfl (lv_at hl 0 rfl) ?_
          refine gM_0_partTold C hX12_part__0_X12 hK hP mX12_part__0_8 dX12_part__94 ?_
          refine lv_aload_n C.1 C.2.1 dX12_part__97 rfl (lv_at hl 0 rfl) ?_
          refine gM_0_parts C hX12_part__0_X12 hK hP mX12_part__0_2 dX12_part__98 ?_
          refine lv_aload_n C.1 C.2.1 dX12_part__101 rfl (lv_at hl 0 rfl) ?_
          refine gM_0_now C hX12_part__0_X12 hK hP mX12_part__0_9 dX12_part__102 ?_
          obtain ⟨hg25, h⟩ := gd_some h
          refine tM_10 C hK hP hJ hS hg25 dX12_part__105 (fun H locs hP hS => ?_)
          obtain ⟨u26, hu27, h⟩ := lt_some h
          rw [← hu27] at hP
          refine lv_aload_n C.1 C.2.1 dX12_part__106 rfl (lv_at hl 0 rfl) ?_
          refine lv_dup C.1 C.2.1 dX12_part__107 rfl ?_
          refine gM_0_parts C hX12_part__0_X12 hK hP mX12_part__0_2 dX12_part__108 ?_
          refine lv_iconst (v := 1) C.1 C.2.1 dX12_part__111 (by decide) ?_
          refine lv_iadd C.1 C.2.1 dX12_part__112 ?_
          refine pM_0_parts C hX12_part__0_X12 hK hP hJ hS mX12_part__0_2 dX12_part__113 (fun H locs hP hS => ?_)
          obtain ⟨u28, hu29, h⟩ := lt_some h
          rw [← hu29] at hP
          refine lv_aload_n C.1 C.2.1 dX12_part__116 rfl (lv_at hl 0 rfl) ?_
          refine gM_0_parts C hX12_part__0_X12 hK hP mX12_part__0_2 dX12_part__117 ?_
          refine lv_iconst (v := 1) C.1 C.2.1 dX12_part__120 (by decide) ?_
          refine lv_isub C.1 C.2.1 dX12_part__121 ?_
          cases h
          exact rt_i C hP hS dX12_part__122
        · rw [if_pos c47] at h
          refine lv_iconst (v := (-1)) C.1 C.2.1 dX12_part__50 (by decide) ?_
          cases h
          exact rt_i C hP hS dX12_part__51
theorem metX12_part__0 (l : Launch) (D : va_G) (cy : Nat → ClassId) (ad st : Nat → Nat) (hJ : JM ad) (sz : Nat) (x1 : Int32) (x2 : Int32) (x3 : Int32) (x4 : Int32) {u : SX} {r : Int32} {u' : SX} (h : fX12_part__0 x1 x2 x3 x4 u = some (r, u')) : Met l yX12_part_ wsX12_part_ rmX12_part__0 (va_Pc [.ref (ad 0), .int x1, .int x2, .int x3, .int x4] (Px D [(cy 0, .int), (cy 1, .long), (cy 2, .boolean), (cy 3, .byte), (cy 4, .object "HissHorn$Text")] st (VM cy ad st) sz u)) (Qi D (VM cy ad st) (AM ad) sz r u') 0 0 (Ax (AM ad) sz) := by
  refine Met.ofW (cc := cX12_part_) (maxL := 5) (ret := (some .int)) (by decide) rfl ?_
  intro p e s m args below meth c s₁ B hml hv
  obtain ⟨rfl, hsz, hP, hK⟩ := hv
  subst hsz
  have C : Cx RX12 cX12_part_ 5 (some .int) wsX12_part_ p s m _ meth c := ⟨B.exec, B.bytes, hml, B.returns, findClass_of_methodNamed B.named, atoms_spec (ws := wsX12_part_) B.pre, B.notSynchronized⟩
  have hl := lv_entry ([.ref (ad 0), .int x1, .int x2, .int x3, .int x4]) (n := 5) (Nat.le_of_ble_eq_true rfl)
  rw [lg_entry_eq]
  exact wX12_part__0 C hK hJ x1 x2 x3 x4 h hP va_S.rf hl

theorem dX12_cutDown_54 : decode cX12_cutDown 54 = .ok (.iastore, 1) := by decide +kernel
theorem dX12_cutDown_55 : decode cX12_cutDown 55 = .ok (.aload_n 0, 1) := by decide +kernel
theorem dX12_cutDown_56 : decode cX12_cutDown 56 = .ok (.getfield 68, 3) := by decide +kernel
theorem dX12_cutDown_59 : decode cX12_cutDown 59 = .ok (.iload_n 1, 1) := by decide +kernel
theorem dX12_cutDown_60 : decode cX12_cutDown 60 = .ok (.iload 4, 2) := by decide +kernel
theorem dX12_cutDown_62 : decode cX12_cutDown 62 = .ok (.ifCond .eq 16, 3) := by decide +kernel
theorem dX12_cutDown_78 : decode cX12_cutDown 78 = .ok (.iload_n 3, 1) := by decide +kernel
theorem dX12_cutDown_79 : decode cX12_cutDown 79 = .ok (.iastore, 1) := by decide +kernel
theorem dX12_cutDown_80 : decode cX12_cutDown 80 = .ok (.return_, 1) := by decide +kernel
theorem dX12_cutDown_65 : decode cX12_cutDown 65 = .ok (.aload_n 0, 1) := by decide +kernel
theorem dX12_cutDown_66 : decode cX12_cutDown 66 = .ok (.getfield 68, 3) := by decide +kernel
theorem dX12_cutDown_69 : decode cX12_cutDown 69 = .ok (.iload_n 1, 1) := by decide +kernel
theorem dX12_cutDown_70 : decode cX12_cutDown 70 = .ok (.iaload, 1) := by decide +kernel
theorem dX12_cutDown_71 : decode cX12_cutDown 71 = .ok (.iload_n 3, 1) := by decide +kernel
theorem dX12_cutDown_72 : decode cX12_cutDown 72 = .ok (.invokestatic 295, 3) := by decide +kernel
theorem dX12_cutDown_75 : decode cX12_cutDown 75 = .ok (.goto 4, 3) := by decide +kernel
theorem dX12_cutDown_28 : decode cX12_cutDown 28 = .ok (.istore 4, 2) := by decide +kernel
theorem dX12_cutDown_30 : decode cX12_cutDown 30 = .ok (.aload_n 0, 1) := by decide +kernel
theorem dX12_cutDown_31 : decode cX12_cutDown 31 = .ok (.getfield 65, 3) := by decide +kernel
theorem dX12_cutDown_34 : decode cX12_cutDown 34 = .ok (.iload_n 1, 1) := by decide +kernel
theorem dX12_cutDown_35 : decode cX12_cutDown 35 = .ok (.iload 4, 2) := by decide +kernel
theorem dX12_cutDown_37 : decode cX12_cutDown 37 = .ok (.ifCond .eq 16, 3) := by decide +kernel
theorem dX12_cutDown_53 : decode cX12_cutDown 53 = .ok (.iload_n 2, 1) := by decide +kernel
theorem dX12_cutDown_40 : decode cX12_cutDown 40 = .ok (.aload_n 0, 1) := by decide +kernel
theorem dX12_cutDown_41 : decode cX12_cutDown 41 = .ok (.getfield 65, 3) := by decide +kernel
theorem dX12_cutDown_44 : decode cX12_cutDown 44 = .ok (.iload_n 1, 1) := by decide +kernel
theorem dX12_cutDown_45 : decode cX12_cutDown 45 = .ok (.iaload, 1) := by decide +kernel
theorem dX12_cutDown_46 : decode cX12_cutDown 46 = .ok (.iload_n 2, 1) := by decide +kernel
theorem dX12_cutDown_47 : decode cX12_cutDown 47 = .ok (.invokestatic 293, 3) := by decide +kernel
theorem dX12_cutDown_50 : decode cX12_cutDown 50 = .ok (.goto 4, 3) := by decide +kernel
theorem dX12_cutDown_0 : decode cX12_cutDown 0 = .ok (.aload_n 0, 1) := by decide +kernel
theorem dX12_cutDown_1 : decode cX12_cutDown 1 = .ok (.getfield 65, 3) := by decide +kernel
theorem dX12_cutDown_4 : decode cX12_cutDown 4 = .ok (.iload_n 1, 1) := by decide +kernel
theorem dX12_cutDown_5 : decode cX12_cutDown 5 = .ok (.iaload, 1) := by decide +kernel
theorem dX12_cutDown_6 : decode cX12_cutDown 6 = .ok (.iload_n 2, 1) := by decide +kernel
theorem dX12_cutDown_7 : decode cX12_cutDown 7 = .ok (.invokestatic 293, 3) := by decide +kernel
theorem dX12_cutDown_10 : decode cX12_cutDown 10 = .ok (.aload_n 0, 1) := by decide +kernel
theorem dX12_cutDown_11 : decode cX12_cutDown 11 = .ok (.getfield 68, 3) := by decide +kernel
theorem dX12_cutDown_14 : decode cX12_cutDown 14 = .ok (.iload_n 1, 1) := by decide +kernel
theorem dX12_cutDown_15 : decode cX12_cutDown 15 = .ok (.iaload, 1) := by decide +kernel
theorem dX12_cutDown_16 : decode cX12_cutDown 16 = .ok (.iload_n 3, 1) := by decide +kernel
theorem dX12_cutDown_17 : decode cX12_cutDown 17 = .ok (.invokestatic 295, 3) := by decide +kernel
theorem dX12_cutDown_20 : decode cX12_cutDown 20 = .ok (.if_icmp .gt 7, 3) := by decide +kernel
theorem dX12_cutDown_27 : decode cX12_cutDown 27 = .ok (.iconst 0, 1) := by decide +kernel
theorem dX12_cutDown_23 : decode cX12_cutDown 23 = .ok (.iconst 1, 1) := by decide +kernel
theorem dX12_cutDown_24 : decode cX12_cutDown 24 = .ok (.goto 4, 3) := by decide +kernel
/-- HissHornModel.cutDown(III)V of cell 0 -/
def rmX12_cutDown_0 : Room := { frames := 1, cells := 0, slots := 0, locals := 15 }
theorem hX12_cutDown_0_X12 : ∀ w ∈ u_ws RX12 TX12 69, w ∈ wsX12_cutDown := fun w h => (List.mem_cons_of_mem _ (List.mem_append_right _ h))
theorem mX12_cutDown_0_1 : Cond.fieldLink RX12 65 "HissHornModel" "from" "[I" ∈ wsX12_cutDown := (List.mem_cons_of_mem _ (List.mem_append_left _ (List.mem_of_getElem? (i := 0) rfl)))
theorem mX12_cutDown_0_2 : Cond.methodLink RX12 293 Lib.Math.max.name ∈ wsX12_cutDown := (List.mem_cons_of_mem _ (List.mem_append_left _ (List.mem_of_getElem? (i := 1) rfl)))
theorem mX12_cutDown_0_3 : Cond.static Lib.Math.max.name ∈ wsX12_cutDown := (List.mem_cons_of_mem _ (List.mem_append_left _ (List.mem_of_getElem? (i := 2) rfl)))
theorem mX12_cutDown_0_4 : Cond.initialized "java/lang/Math" ∈ wsX12_cutDown := (List.mem_cons_of_mem _ (List.mem_append_left _ (List.mem_of_getElem? (i := 3) rfl)))
theorem mX12_cutDown_0_5 : Cond.code Lib.Math.max.name Lib.Math.max.code 2 (some .int) ∈ wsX12_cutDown := (List.mem_cons_of_mem _ (List.mem_append_left _ (List.mem_of_getElem? (i := 4) rfl)))
theorem mX12_cutDown_0_6 : Cond.fieldLink RX12 68 "HissHornModel" "to" "[I" ∈ wsX12_cutDown := (List.mem_cons_of_mem _ (List.mem_append_left _ (List.mem_of_getElem? (i := 5) rfl)))
theorem mX12_cutDown_0_7 : Cond.methodLink RX12 295 Lib.Math.min.name ∈ wsX12_cutDown := (List.mem_cons_of_mem _ (List.mem_append_left _ (List.mem_of_getElem? (i := 6) rfl)))
theorem mX12_cutDown_0_8 : Cond.static Lib.Math.min.name ∈ wsX12_cutDown := (List.mem_cons_of_mem _ (List.mem_append_left _ (List.mem_of_getElem? (i := 7) rfl)))
theorem mX12_cutDown_0_9 : Cond.code Lib.Math.min.name Lib.Math.min.code 2 (some .int) ∈ wsX12_cutDown := (List.mem_cons_of_mem _ (List.mem_append_left _ (List.mem_of_getElem? (i := 8) rfl)))
def GX12_cutDown_0_54 (z1 : Int32) (z3 : Int32) (z4 : Int32) (y0 : Int32) (y1 : Int32) (u : SX) : Option (Int32 × SX) := (gd (inb y1 12) (lt (sA u 16 (upd (u.2.1 16) y1.toNatClampNeg y0)) fun u4 => (if z4 = 0 then (gd (inb z1 12) (lt (sA u4 17 (upd (u4.2.1 17) z1.toNatClampNeg z3)) fun u7 => (some (0, u7)))) else (gd (inb z1 12) (gd (inb z1 12) (lt (sA u4 17 (upd (u4.2.1 17) z1.toNatClampNeg (if z3 < (u4.2.1 17 z1.toNatClampNeg) then z3 else (u4.2.1 17 z1.toNatClampNeg)))) fun u11 => (some (0, u11))))))))
def GX12_cutDown_0_28 (z1 : Int32) (z2 : Int32) (z3 : Int32) (y0 : Int32) (u : SX) : Option (Int32 × SX) := (if y0 = 0 then (GX12_cutDown_0_54 z1 z3 y0 z2 z1 u) else (gd (inb z1 12) (GX12_cutDown_0_54 z1 z3 y0 (if (u.2.1 16 z1.toNatClampNeg) < z2 then z2 else (u.2.1 16 z1.toNatClampNeg)) z1 u)))
def fX12_cutDown_0 (x1 : Int32) (x2 : Int32) (x3 : Int32) (u : SX) : Option (Int32 × SX) := (gd (inb x1 12) (gd (inb x1 12) (if (if x3 < (u.2.1 17 x1.toNatClampNeg) then x3 else (u.2.1 17 x1.toNatClampNeg)) < (if (u.2.1 16 x1.toNatClampNeg) < x2 then x2 else (u.2.1 16 x1.toNatClampNeg)) then (GX12_cutDown_0_28 x1 x2 x3 0 u) else (GX12_cutDown_0_28 x1 x2 x3 1 u))))
set_option maxHeartbeats 4000000 in
set_option maxRecDepth 100000 in
theorem wGX12_cutDown_0_54 {p : Program} {l : Launch} {e : Env} {s : State} {m : MethodId} {args : Array Value} {below : List Frame} {meth : Method} {c : Code} {D : va_G} {cy : Nat → ClassId} {ad st : Nat → Nat} (C : Cx RX12 cX12_cutDown 5 none wsX12_cutDown p s m args meth c) (hK : Kx D [(cy 0, .int), (cy 1, .long), (cy 2, .boolean), (cy 3, .byte), (cy 4, .object "HissHorn$Text")] st s) (hJ : JM ad) {r : Int32} {u' : SX}   (z1 : Int32) (z3 : Int32) (z4 : Int32) (y0 : Int32) (y1 : Int32) (u : SX) (H : Heap) (locs : List Loc) (ls : Array Slot) (h : GX12_cutDown_0_54 z1 z3 z4 y0 y1 u = some (r, u')) (hP : va_P D vwCl (VM cy ad st u) H) (hS : va_S (Ax (AM ad) s.heap.size) s.heap H locs) (hl : lv_has ls 5 [(0, .ref (ad 0)), (1, .int z1), (3, .int z3), (4, .int z4)]) : W p l e rmX12_cutDown_0 s m args below meth c H locs 0 0 (MQ below (Qv D (VM cy ad st) (AM ad) s.heap.size r u') args s 0 0 (Ax (AM ad) s.heap.size)) (F0 m 54 ls [.int y0, .int y1, .ref (ad 16)]) := by
  unfold GX12_cutDown_0_54 at h
  obtain ⟨hg3, h⟩ := gd_some h
  refine tM_16 C hK hP hJ hS hg3 dX12_cutDown_54 (fun H locs hP hS => ?_)
  obtain ⟨u4, hu5, h⟩ := lt_some h
  rw [← hu5] at hP
  refine lv_aload_n C.1 C.2.1 dX12_cutDown_55 rfl (lv_at hl 0 rfl) ?_
  refine gM_0_to C hX12_cutDown_0_X12 hK hP mX12_cutDown_0_6 dX12_cutDown_56 ?_
  refine lv_iload_n C.1 C.2.1 dX12_cutDown_59 rfl (lv_at hl 1 rfl) ?_
  refine lv_iload C.1 C.2.1 dX12_cutDown_60 (lv_at hl 3 rfl) ?_
  refine lv_if_eq (tgt := 78) C.1 C.2.1 dX12_cutDown_62 (by decide) (fun c62 => ?_) (fun c62 => ?_)
  · rw [if_pos c62] at h
    refine lv_iload_n C.1 C.2.1 dX12_cutDown_78 rfl (lv_at hl 2 rfl) ?_
    obtain ⟨hg6, h⟩ := gd_some h
    refine tM_17 C hK hP hJ hS hg6 dX12_cutDown_79 (fun H locs hP hS => ?_)
    obtain ⟨u7, hu8, h⟩ := lt_some h
    rw [← hu8] at hP
    cases h
    exact rt_v C hP hS dX12_cutDown_80
  · rw [if_neg c62] at h
    refine lv_aload_n C.1 C.2.1 dX12_cutDown_65 rfl (lv_at hl 0 rfl) ?_
    refine gM_0_to C hX12_cutDown_0_X12 hK hP mX12_cutDown_0_6 dX12_cutDown_66 ?_
    refine lv_iload_n C.1 C.2.1 dX12_cutDown_69 rfl (lv_at hl 1 rfl) ?_
    obtain ⟨hg9, h⟩ := gd_some h
    refine lM_17 C hK hP hg9 dX12_cutDown_70 ?_
    refine lv_iload_n C.1 C.2.1 dX12_cutDown_71 rfl (lv_at hl 2 rfl) ?_
    refine va_mmin C.1 C.2.1 (C.2.2.1.trans hl.1.symm) C.2.2.2.2.1 (C.2.2.2.2.2.1 _ mX12_cutDown_0_7) (C.2.2.2.2.2.1 _ mX12_cutDown_0_8) (C.2.2.2.2.2.1 _ mX12_cutDown_0_4) (C.2.2.2.2.2.1 _ mX12_cutDown_0_9) (Nat.le_of_ble_eq_true rfl) (Nat.le_of_ble_eq_true rfl) (Nat.zero_le _) (Nat.zero_le _) dX12_cutDown_72 ?_
    refine lv_goto (tgt := 79) C.1 C.2.1 dX12_cutDown_75 (by decide) ?_
    obtain ⟨hg10, h⟩ := gd_some h
    refine tM_17 C hK hP hJ hS hg10 dX12_cutDown_79 (fun H locs hP hS => ?_)
    obtain ⟨u11, hu12, h⟩ := lt_some h
    rw [← hu12] at hP
    cases h
    exact rt_v C hP hS dX12_cutDown_80
set_option maxHeartbeats 4000000 in
set_option maxRecDepth 100000 in
theorem wGX12_cutDown_0_28 {p : Program} {l : Launch} {e : Env} {s : State} {m : MethodId} {args : Array Value} {below : List Frame} {meth : Method} {c : Code} {D : va_G} {cy : Nat → ClassId} {ad st : Nat → Nat} (C : Cx RX12 cX12_cutDown 5 none wsX12_cutDown p s m args meth c) (hK : Kx D [(cy 0, .int), (cy 1, .long), (cy 2, .boolean), (cy 3, .byte), (cy 4, .object "HissHorn$Text")] st s) (hJ : JM ad) {r : Int32} {u' : SX}   (z1 : Int32) (z2 : Int32) (z3 : Int32) (y0 : Int32) (u : SX) (H : Heap) (locs : List Loc) (ls : Array Slot) (h : GX12_cutDown_0_28 z1 z2 z3 y0 u = some (r, u')) (hP : va_P D vwCl (VM cy ad st u) H) (hS : va_S (Ax (AM ad) s.heap.size) s.heap H locs) (hl : lv_has ls 5 [(0, .ref (ad 0)), (1, .int z1), (2, .int z2), (3, .int z3)]) : W p l e rmX12_cutDown_0 s m args below meth c H locs 0 0 (MQ below (Qv D (VM cy ad st) (AM ad) s.heap.size r u') args s 0 0 (Ax (AM ad) s.heap.size)) (F0 m 28 ls [.int y0]) := by
  unfold GX12_cutDown_0_28 at h
  refine lv_istore (lv' := [(4, .int y0), (0, .ref (ad 0)), (1, .int z1), (2, .int z2), (3, .int z3)]) C.1 C.2.1 dX12_cutDown_28 hl (by decide) rfl (fun ls hl => ?_)
  replace hl := lv_sub (l' := [(0, .ref (ad 0)), (1, .int z1), (2, .int z2), (3, .int z3), (4, .int y0)]) hl [1, 2, 3, 4, 0] rfl
  refine lv_aload_n C.1 C.2.1 dX12_cutDown_30 rfl (lv_at hl 0 rfl) ?_
  refine gM_0_from C hX12_cutDown_0_X12 hK hP mX12_cutDown_0_1 dX12_cutDown_31 ?_
  refine lv_iload_n C.1 C.2.1 dX12_cutDown_34 rfl (lv_at hl 1 rfl) ?_
  refine lv_iload C.1 C.2.1 dX12_cutDown_35 (lv_at hl 4 rfl) ?_
  refine lv_if_eq (tgt := 53) C.1 C.2.1 dX12_cutDown_37 (by decide) (fun c37 => ?_) (fun c37 => ?_)
  · rw [if_pos c37] at h
    refine lv_iload_n C.1 C.2.1 dX12_cutDown_53 rfl (lv_at hl 2 rfl) ?_
    exact wGX12_cutDown_0_54 C hK hJ _ _ _ _ _ _ _ _ _ h hP hS (lv_sub hl [0, 1, 3, 4] rfl)
  · rw [if_neg c37] at h
    refine lv_aload_n C.1 C.2.1 dX12_cutDown_40 rfl (lv_at hl 0 rfl) ?_
    refine gM_0_from C hX12_cutDown_0_X12 hK hP mX12_cutDown_0_1 dX12_cutDown_41 ?_
    refine lv_iload_n C.1 C.2.1 dX12_cutDown_44 rfl (lv_at hl 1 rfl) ?_
    obtain ⟨hg13, h⟩ := gd_some h
    refine lM_16 C hK hP hg13 dX12_cutDown_45 ?_
    refine lv_iload_n C.1 C.2.1 dX12_cutDown_46 rfl (lv_at hl 2 rfl) ?_
    refine va_mmax C.1 C.2.1 (C.2.2.1.trans hl.1.symm) C.2.2.2.2.1 (C.2.2.2.2.2.1 _ mX12_cutDown_0_2) (C.2.2.2.2.2.1 _ mX12_cutDown_0_3) (C.2.2.2.2.2.1 _ mX12_cutDown_0_4) (C.2.2.2.2.2.1 _ mX12_cutDown_0_5) (Nat.le_of_ble_eq_true rfl) (Nat.le_of_ble_eq_true rfl) (Nat.zero_le _) (Nat.zero_le _) dX12_cutDown_47 ?_
    refine lv_goto (tgt := 54) C.1 C.2.1 dX12_cutDown_50 (by decide) ?_
    exact wGX12_cutDown_0_54 C hK hJ _ _ _ _ _ _ _ _ _ h hP hS (lv_sub hl [0, 1, 3, 4] rfl)
set_option maxHeartbeats 4000000 in
set_option maxRecDepth 100000 in
theorem wX12_cutDown_0 {p : Program} {l : Launch} {e : Env} {s : State} {m : MethodId} {args : Array Value} {below : List Frame} {meth : Method} {c : Code} {D : va_G} {cy : Nat → ClassId} {ad st : Nat → Nat} (C : Cx RX12 cX12_cutDown 5 none wsX12_cutDown p s m args meth c) (hK : Kx D [(cy 0, .int), (cy 1, .long), (cy 2, .boolean), (cy 3, .byte), (cy 4, .object "HissHorn$Text")] st s) (hJ : JM ad) (x1 : Int32) (x2 : Int32) (x3 : Int32) {u : SX} {r : Int32} {u' : SX} {H : Heap} {locs : List Loc} {ls : Array Slot} (h : fX12_cutDown_0 x1 x2 x3 u = some (r, u')) (hP : va_P D vwCl (VM cy ad st u) H) (hS : va_S (Ax (AM ad) s.heap.size) s.heap H locs) (hl : lv_has ls 5 [(0, .ref (ad 0)), (1, .int x1), (2, .int x2), (3, .int x3)]) : W p l e rmX12_cutDown_0 s m args below meth c H locs 0 0 (MQ below (Qv D (VM cy ad st) (AM ad) s.heap.size r u') args s 0 0 (Ax (AM ad) s.heap.size)) (F0 m 0 ls []) := by
  unfold fX12_cutDown_0 at h
  refine lv_aload_n C.1 C.2.1 dX12_cutDown_0 rfl (lv_at hl 0 rfl) ?_
  refine gM_0_from C hX12_cutDown_0_X12 hK hP mX12_cutDown_0_1 dX12_cutDown_1 ?_
  refine lv_iload_n C.1 C.2.1 dX12_cutDown_4 rfl (lv_at hl 1 rfl) ?_
  obtain ⟨hg1, h⟩ := gd_some h
  refine lM_16 C hK hP hg1 dX12_cutDown_5 ?_
  refine lv_iload_n C.1 C.2.1 dX12_cutDown_6 rfl (lv_at hl 2 rfl) ?_
  refine va_mmax C.1 C.2.1 (C.2.2.1.trans hl.1.symm) C.2.2.2.2.1 (C.2.2.2.2.2.1 _ mX12_cutDown_0_2) (C.2.2.2.2.2.1 _ mX12_cutDown_0_3) (C.2.2.2.2.2.1 _ mX12_cutDown_0_4) (C.2.2.2.2.2.1 _ mX12_cutDown_0_5) (Nat.le_of_ble_eq_true rfl) (Nat.le_of_ble_eq_true rfl) (Nat.zero_le _) (Nat.zero_le _) dX12_cutDown_7 ?_
  refine lv_aload_n C.1 C.2.1 dX12_cutDown_10 rfl (lv_at hl 0 rfl) ?_
  refine gM_0_to C hX12_cutDown_0_X12 hK hP mX12_cutDown_0_6 dX12_cutDown_11 ?_
  refine lv_iload_n C.1 C.2.1 dX12_cutDown_14 rfl (lv_at hl 1 rfl) ?_
  obtain ⟨hg2, h⟩ := gd_some h
  refine lM_17 C hK hP hg2 dX12_cutDown_15 ?_
  refine lv_iload_n C.1 C.2.1 dX12_cutDown_16 rfl (lv_at hl 3 rfl) ?_
  refine va_mmin C.1 C.2.1 (C.2.2.1.trans hl.1.symm) C.2.2.2.2.1 (C.2.2.2.2.2.1 _ mX12_cutDown_0_7) (C.2.2.2.2.2.1 _ mX12_cutDown_0_8) (C.2.2.2.2.2.1 _ mX12_cutDown_0_4) (C.2.2.2.2.2.1 _ mX12_cutDown_0_9) (Nat.le_of_ble_eq_true rfl) (Nat.le_of_ble_eq_true rfl) (Nat.zero_le _) (Nat.zero_le _) dX12_cutDown_17 ?_
  refine lv_icmp_gt (tgt := 27) C.1 C.2.1 dX12_cutDown_20 (by decide) (fun c20 => ?_) (fun c20 => ?_)
  · rw [if_pos c20] at h
    refine lv_iconst (v := 0) C.1 C.2.1 dX12_cutDown_27 (by decide) ?_
    exact wGX12_cutDown_0_28 C hK hJ _ _ _ _ _ _ _ _ h hP hS hl
  · rw [if_neg c20] at h
    refine lv_iconst (v := 1) C.1 C.2.1 dX12_cutDown_23 (by decide) ?_
    refine lv_goto (tgt := 28) C.1 C.2.1 dX12_cutDown_24 (by decide) ?_
    exact wGX12_cutDown_0_28 C hK hJ _ _ _ _ _ _ _ _ h hP hS hl
theorem metX12_cutDown_0 (l : Launch) (D : va_G) (cy : Nat → ClassId) (ad st : Nat → Nat) (hJ : JM ad) (sz : Nat) (x1 : Int32) (x2 : Int32) (x3 : Int32) {u : SX} {r : Int32} {u' : SX} (h : fX12_cutDown_0 x1 x2 x3 u = some (r, u')) : Met l yX12_cutDown wsX12_cutDown rmX12_cutDown_0 (va_Pc [.ref (ad 0), .int x1, .int x2, .int x3] (Px D [(cy 0, .int), (cy 1, .long), (cy 2, .boolean), (cy 3, .byte), (cy 4, .object "HissHorn$Text")] st (VM cy ad st) sz u)) (Qv D (VM cy ad st) (AM ad) sz r u') 0 0 (Ax (AM ad) sz) := by
  refine Met.ofW (cc := cX12_cutDown) (maxL := 5) (ret := none) (by decide) rfl ?_
  intro p e s m args below meth c s₁ B hml hv
  obtain ⟨rfl, hsz, hP, hK⟩ := hv
  subst hsz
  have C : Cx RX12 cX12_cutDown 5 none wsX12_cutDown p s m _ meth c := ⟨B.exec, B.bytes, hml, B.returns, findClass_of_methodNamed B.named, atoms_spec (ws := wsX12_cutDown) B.pre, B.notSynchronized⟩
  have hl := lv_entry ([.ref (ad 0), .int x1, .int x2, .int x3]) (n := 5) (Nat.le_of_ble_eq_true rfl)
  rw [lg_entry_eq]
  exact wX12_cutDown_0 C hK hJ x1 x2 x3 h hP va_S.rf hl

theorem dX12_laySpans_2 : decode cX12_laySpans 2 = .ok (.iload_n 2, 1) := by decide +kernel
theorem dX12_laySpans_3 : decode cX12_laySpans 3 = .ok (.aload_n 0, 1) := by decide +kernel
theorem dX12_laySpans_4 : decode cX12_laySpans 4 = .ok (.getfield 286, 3) := by decide +kernel
theorem dX12_laySpans_7 : decode cX12_laySpans 7 = .ok (.if_icmp .ge 33, 3) := by decide +kernel
theorem dX12_laySpans_10 : decode cX12_laySpans 10 = .ok (.aload_n 0, 1) := by decide +kernel
theorem dX12_laySpans_11 : decode cX12_laySpans 11 = .ok (.getfield 65, 3) := by decide +kernel
theorem dX12_laySpans_14 : decode cX12_laySpans 14 = .ok (.iload_n 2, 1) := by decide +kernel
theorem dX12_laySpans_15 : decode cX12_laySpans 15 = .ok (.aload_n 0, 1) := by decide +kernel
theorem dX12_laySpans_16 : decode cX12_laySpans 16 = .ok (.getfield 38, 3) := by decide +kernel
theorem dX12_laySpans_19 : decode cX12_laySpans 19 = .ok (.iload_n 2, 1) := by decide +kernel
theorem dX12_laySpans_20 : decode cX12_laySpans 20 = .ok (.iaload, 1) := by decide +kernel
theorem dX12_laySpans_21 : decode cX12_laySpans 21 = .ok (.iastore, 1) := by decide +kernel
theorem dX12_laySpans_22 : decode cX12_laySpans 22 = .ok (.aload_n 0, 1) := by decide +kernel
theorem dX12_laySpans_23 : decode cX12_laySpans 23 = .ok (.getfield 68, 3) := by decide +kernel
theorem dX12_laySpans_26 : decode cX12_laySpans 26 = .ok (.iload_n 2, 1) := by decide +kernel
theorem dX12_laySpans_27 : decode cX12_laySpans 27 = .ok (.aload_n 0, 1) := by decide +kernel
theorem dX12_laySpans_28 : decode cX12_laySpans 28 = .ok (.getfield 41, 3) := by decide +kernel
theorem dX12_laySpans_31 : decode cX12_laySpans 31 = .ok (.iload_n 2, 1) := by decide +kernel
theorem dX12_laySpans_32 : decode cX12_laySpans 32 = .ok (.iaload, 1) := by decide +kernel
theorem dX12_laySpans_33 : decode cX12_laySpans 33 = .ok (.iastore, 1) := by decide +kernel
theorem dX12_laySpans_34 : decode cX12_laySpans 34 = .ok (.iinc 2 1, 3) := by decide +kernel
theorem dX12_laySpans_37 : decode cX12_laySpans 37 = .ok (.goto (-35), 3) := by decide +kernel
theorem dX12_laySpans_108 : decode cX12_laySpans 108 = .ok (.iinc 2 1, 3) := by decide +kernel
theorem dX12_laySpans_111 : decode cX12_laySpans 111 = .ok (.goto (-69), 3) := by decide +kernel
theorem dX12_laySpans_42 : decode cX12_laySpans 42 = .ok (.iload_n 2, 1) := by decide +kernel
theorem dX12_laySpans_43 : decode cX12_laySpans 43 = .ok (.iload_n 1, 1) := by decide +kernel
theorem dX12_laySpans_44 : decode cX12_laySpans 44 = .ok (.if_icmp .ge 70, 3) := by decide +kernel
theorem dX12_laySpans_114 : decode cX12_laySpans 114 = .ok (.return_, 1) := by decide +kernel
theorem dX12_laySpans_47 : decode cX12_laySpans 47 = .ok (.aload_n 0, 1) := by decide +kernel
theorem dX12_laySpans_48 : decode cX12_laySpans 48 = .ok (.getfield 53, 3) := by decide +kernel
theorem dX12_laySpans_51 : decode cX12_laySpans 51 = .ok (.iload_n 2, 1) := by decide +kernel
theorem dX12_laySpans_52 : decode cX12_laySpans 52 = .ok (.iaload, 1) := by decide +kernel
theorem dX12_laySpans_53 : decode cX12_laySpans 53 = .ok (.istore_n 3, 1) := by decide +kernel
theorem dX12_laySpans_54 : decode cX12_laySpans 54 = .ok (.aload_n 0, 1) := by decide +kernel
theorem dX12_laySpans_55 : decode cX12_laySpans 55 = .ok (.getfield 50, 3) := by decide +kernel
theorem dX12_laySpans_58 : decode cX12_laySpans 58 = .ok (.iload_n 2, 1) := by decide +kernel
theorem dX12_laySpans_59 : decode cX12_laySpans 59 = .ok (.iaload, 1) := by decide +kernel
theorem dX12_laySpans_60 : decode cX12_laySpans 60 = .ok (.iconst (-1), 1) := by decide +kernel
theorem dX12_laySpans_61 : decode cX12_laySpans 61 = .ok (.if_icmp .ne 30, 3) := by decide +kernel
theorem dX12_laySpans_91 : decode cX12_laySpans 91 = .ok (.aload_n 0, 1) := by decide +kernel
theorem dX12_laySpans_92 : decode cX12_laySpans 92 = .ok (.iload_n 3, 1) := by decide +kernel
theorem dX12_laySpans_93 : decode cX12_laySpans 93 = .ok (.aload_n 0, 1) := by decide +kernel
theorem dX12_laySpans_94 : decode cX12_laySpans 94 = .ok (.getfield 56, 3) := by decide +kernel
theorem dX12_laySpans_97 : decode cX12_laySpans 97 = .ok (.iload_n 2, 1) := by decide +kernel
theorem dX12_laySpans_98 : decode cX12_laySpans 98 = .ok (.iaload, 1) := by decide +kernel
theorem dX12_laySpans_99 : decode cX12_laySpans 99 = .ok (.aload_n 0, 1) := by decide +kernel
theorem dX12_laySpans_100 : decode cX12_laySpans 100 = .ok (.getfield 59, 3) := by decide +kernel
theorem dX12_laySpans_103 : decode cX12_laySpans 103 = .ok (.iload_n 2, 1) := by decide +kernel
theorem dX12_laySpans_104 : decode cX12_laySpans 104 = .ok (.iaload, 1) := by decide +kernel
set_option maxRecDepth 20000 in
theorem ggX12_laySpans_X12_cutDown : GoodIn wsX12_laySpans wsX12_cutDown := goodIn_r _ [14, 2, 15, 16, 17, 18, 4, 19, 20, 21, 22, 23, 24, 25, 26, 27, 28, 29, 30, 31, 32, 33, 34, 35, 36, 37, 38, 39, 40, 41, 42, 43, 44, 45, 46, 47, 48, 49, 50, 51, 52, 53, 54, 55, 56, 57, 58, 59, 60, 61, 62, 63, 64, 65, 66, 67, 68, 69, 70, 71, 72, 73, 74, 75, 76, 77, 78, 79, 80, 81, 82, 83, 84, 85, 86, 87, 88, 89, 90] (by decide +kernel) (by decide +kernel)
set_option maxRecDepth 20000 in
theorem gX12_laySpans_X12_cutDown : GoodIn wsX12_laySpans (wsV RX12 297 RX12 yX12_cutDown wsX12_cutDown) := goodIn_app (goodIn_of _ (by decide +kernel)) ggX12_laySpans_X12_cutDown
theorem dX12_laySpans_105 : decode cX12_laySpans 105 = .ok (.invokevirtual 297, 3) := by decide +kernel
theorem dX12_laySpans_64 : decode cX12_laySpans 64 = .ok (.aload_n 0, 1) := by decide +kernel
theorem dX12_laySpans_65 : decode cX12_laySpans 65 = .ok (.getfield 65, 3) := by decide +kernel
theorem dX12_laySpans_68 : decode cX12_laySpans 68 = .ok (.iload_n 3, 1) := by decide +kernel
theorem dX12_laySpans_69 : decode cX12_laySpans 69 = .ok (.aload_n 0, 1) := by decide +kernel
theorem dX12_laySpans_70 : decode cX12_laySpans 70 = .ok (.getfield 56, 3) := by decide +kernel
theorem dX12_laySpans_73 : decode cX12_laySpans 73 = .ok (.iload_n 2, 1) := by decide +kernel
theorem dX12_laySpans_74 : decode cX12_laySpans 74 = .ok (.iaload, 1) := by decide +kernel
theorem dX12_laySpans_75 : decode cX12_laySpans 75 = .ok (.iastore, 1) := by decide +kernel
theorem dX12_laySpans_76 : decode cX12_laySpans 76 = .ok (.aload_n 0, 1) := by decide +kernel
theorem dX12_laySpans_77 : decode cX12_laySpans 77 = .ok (.getfield 68, 3) := by decide +kernel
theorem dX12_laySpans_80 : decode cX12_laySpans 80 = .ok (.iload_n 3, 1) := by decide +kernel
theorem dX12_laySpans_81 : decode cX12_laySpans 81 = .ok (.aload_n 0, 1) := by decide +kernel
theorem dX12_laySpans_82 : decode cX12_laySpans 82 = .ok (.getfield 59, 3) := by decide +kernel
theorem dX12_laySpans_85 : decode cX12_laySpans 85 = .ok (.iload_n 2, 1) := by decide +kernel
theorem dX12_laySpans_86 : decode cX12_laySpans 86 = .ok (.iaload, 1) := by decide +kernel
theorem dX12_laySpans_87 : decode cX12_laySpans 87 = .ok (.iastore, 1) := by decide +kernel
theorem dX12_laySpans_88 : decode cX12_laySpans 88 = .ok (.goto 20, 3) := by decide +kernel
theorem dX12_laySpans_40 : decode cX12_laySpans 40 = .ok (.iconst 0, 1) := by decide +kernel
theorem dX12_laySpans_41 : decode cX12_laySpans 41 = .ok (.istore_n 2, 1) := by decide +kernel
theorem dX12_laySpans_0 : decode cX12_laySpans 0 = .ok (.iconst 0, 1) := by decide +kernel
theorem dX12_laySpans_1 : decode cX12_laySpans 1 = .ok (.istore_n 2, 1) := by decide +kernel
/-- HissHornModel.laySpans(I)V of cell 0 -/
def rmX12_laySpans_0 : Room := { frames := 2, cells := 0, slots := 0, locals := 39 }
theorem hX12_laySpans_0_X12 : ∀ w ∈ u_ws RX12 TX12 69, w ∈ wsX12_laySpans := fun w h => (List.mem_cons_of_mem _ (List.mem_append_right _ h))
theorem mX12_laySpans_0_1 : Cond.fieldLink RX12 286 "HissHornModel" "parts" "I" ∈ wsX12_laySpans := (List.mem_cons_of_mem _ (List.mem_append_left _ (List.mem_of_getElem? (i := 0) rfl)))
theorem mX12_laySpans_0_2 : Cond.fieldLink RX12 65 "HissHornModel" "from" "[I" ∈ wsX12_laySpans := (List.mem_cons_of_mem _ (List.mem_append_left _ (List.mem_of_getElem? (i := 1) rfl)))
theorem mX12_laySpans_0_3 : Cond.fieldLink RX12 38 "HissHornModel" "partFrom" "[I" ∈ wsX12_laySpans := (List.mem_cons_of_mem _ (List.mem_append_left _ (List.mem_of_getElem? (i := 2) rfl)))
theorem mX12_laySpans_0_4 : Cond.fieldLink RX12 68 "HissHornModel" "to" "[I" ∈ wsX12_laySpans := (List.mem_cons_of_mem _ (List.mem_append_left _ (List.mem_of_getElem? (i := 3) rfl)))
theorem mX12_laySpans_0_5 : Cond.fieldLink RX12 41 "HissHornModel" "partTo" "[I" ∈ wsX12_laySpans := (List.mem_cons_of_mem _ (List.mem_append_left _ (List.mem_of_getElem? (i := 4) rfl)))
def LX12_laySpans_0_2 (k40 : Int32 → SX → Option (Int32 × SX)) : Nat → Int32 → Int32 → SX → Option (Int32 × SX)
  | 0, _, _, _ => none
  | n + 1, z1, z2, u => (if (u.1 12) ≤ z2 then (k40 z1 u) else (gd (inb z2 12) (gd (inb z2 12) (lt (sA u 16 (upd (u.2.1 16) z2.toNatClampNeg (u.2.1 7 z2.toNatClampNeg))) fun u3 => (gd (inb z2 12) (gd (inb z2 12) (lt (sA u3 17 (upd (u3.2.1 17) z2.toNatClampNeg (u3.2.1 8 z2.toNatClampNeg))) fun u7 => ((LX12_laySpans_0_2 k40 n) z1 (z2 + 1) u7))))))))
theorem mX12_laySpans_0_6 : Cond.fieldLink RX12 53 "HissHornModel" "eventPart" "[I" ∈ wsX12_laySpans := (List.mem_cons_of_mem _ (List.mem_append_left _ (List.mem_of_getElem? (i := 5) rfl)))
theorem mX12_laySpans_0_7 : Cond.fieldLink RX12 50 "HissHornModel" "eventLook" "[I" ∈ wsX12_laySpans := (List.mem_cons_of_mem _ (List.mem_append_left _ (List.mem_of_getElem? (i := 6) rfl)))
theorem mX12_laySpans_0_8 : Cond.fieldLink RX12 56 "HissHornModel" "eventFrom" "[I" ∈ wsX12_laySpans := (List.mem_cons_of_mem _ (List.mem_append_left _ (List.mem_of_getElem? (i := 7) rfl)))
theorem mX12_laySpans_0_9 : Cond.fieldLink RX12 59 "HissHornModel" "eventTo" "[I" ∈ wsX12_laySpans := (List.mem_cons_of_mem _ (List.mem_append_left _ (List.mem_of_getElem? (i := 8) rfl)))
def GX12_laySpans_0_108 (k42 : Int32 → Int32 → SX → Option (Int32 × SX)) (z1 : Int32) (z2 : Int32) (u : SX) : Option (Int32 × SX) := (k42 z1 (z2 + 1) u)
def LX12_laySpans_0_42  : Nat → Int32 → Int32 → SX → Option (Int32 × SX)
  | 0, _, _, _ => none
  | n + 1, z1, z2, u => (if z1 ≤ z2 then (some (0, u)) else (gd (inb z2 30) (lt (u.2.1 12 z2.toNatClampNeg) fun v10 => (gd (inb z2 30) (if (u.2.1 11 z2.toNatClampNeg) = (-1) then (gd (inb z2 30) (gd (inb v10 12) (lt (sA u 16 (upd (u.2.1 16) v10.toNatClampNeg (u.2.1 13 z2.toNatClampNeg))) fun u20 => (gd (inb z2 30) (gd (inb v10 12) (lt (sA u20 17 (upd (u20.2.1 17) v10.toNatClampNeg (u20.2.1 14 z2.toNatClampNeg))) fun u24 => (GX12_laySpans_0_108 (LX12_laySpans_0_42 n) z1 z2 u24))))))) else (gd (inb z2 30) (gd (inb z2 30) ((fX12_cutDown_0 v10 (u.2.1 13 z2.toNatClampNeg) (u.2.1 14 z2.toNatClampNeg) u).bind fun q => match q with | (r15, u16) => (GX12_laySpans_0_108 (LX12_laySpans_0_42 n) z1 z2 u16)))))))))
def GX12_laySpans_0_40 (z1 : Int32) (u : SX) : Option (Int32 × SX) := (LX12_laySpans_0_42  5000 z1 0 u)
def fX12_laySpans_0 (x1 : Int32) (u : SX) : Option (Int32 × SX) := (LX12_laySpans_0_2 GX12_laySpans_0_40 5000 x1 0 u)
set_option maxHeartbeats 4000000 in
set_option maxRecDepth 100000 in
theorem wLX12_laySpans_0_2 {p : Program} {l : Launch} {e : Env} {s : State} {m : MethodId} {args : Array Value} {below : List Frame} {meth : Method} {c : Code} {D : va_G} {cy : Nat → ClassId} {ad st : Nat → Nat} (C : Cx RX12 cX12_laySpans 4 none wsX12_laySpans p s m args meth c) (hK : Kx D [(cy 0, .int), (cy 1, .long), (cy 2, .boolean), (cy 3, .byte), (cy 4, .object "HissHorn$Text")] st s) (hJ : JM ad) {r : Int32} {u' : SX} {k40 : Int32 → SX → Option (Int32 × SX)} (hk40 : ∀ (z1 : Int32) (u : SX) (H : Heap) (locs : List Loc) (ls : Array Slot), k40 z1 u = some (r, u') → va_P D vwCl (VM cy ad st u) H → va_S (Ax (AM ad) s.heap.size) s.heap H locs → lv_has ls 4 [(0, .ref (ad 0)), (1, .int z1)] → W p l e rmX12_laySpans_0 s m args below meth c H locs 0 0 (MQ below (Qv D (VM cy ad st) (AM ad) s.heap.size r u') args s 0 0 (Ax (AM ad) s.heap.size)) (F0 m 40 ls [])) : ∀ (n : Nat) (z1 : Int32) (z2 : Int32) (u : SX) (H : Heap) (locs : List Loc) (ls : Array Slot), LX12_laySpans_0_2 k40 n z1 z2 u = some (r, u') → va_P D vwCl (VM cy ad st u) H → va_S (Ax (AM ad) s.heap.size) s.heap H locs → lv_has ls 4 [(0, .ref (ad 0)), (1, .int z1), (2, .int z2)] → W p l e rmX12_laySpans_0 s m args below meth c H locs 0 0 (MQ below (Qv D (VM cy ad st) (AM ad) s.heap.size r u') args s 0 0 (Ax (AM ad) s.heap.size)) (F0 m 2 ls []) := by
  intro n
  induction n with
  | zero =>
    intro z1 z2 u H locs ls h
    exact absurd h (by intro q; cases q)
  | succ n ih =>
    intro z1 z2 u H locs ls h hP hS hl
    rw [LX12_laySpans_0_2] at h
    refine lv_iload_n C.1 C.2.1 dX12_laySpans_2 rfl (lv_at hl 2 rfl) ?_
    refine lv_aload_n C.1 C.2.1 dX12_laySpans_3 rfl (lv_at hl 0 rfl) ?_
    refine gM_0_parts C hX12_laySpans_0_X12 hK hP mX12_laySpans_0_1 dX12_laySpans_4 ?_
    refine lv_icmp_ge (tgt := 40) C.1 C.2.1 dX12_laySpans_7 (by decide) (fun c7 => ?_) (fun c7 => ?_)
    · rw [if_pos c7] at h
      exact hk40 _ _ _ _ _ h hP hS (lv_sub hl [0, 1] rfl)
    · rw [if_neg c7] at h
      refine lv_aload_n C.1 C.2.1 dX12_laySpans_10 rfl (lv_at hl 0 rfl) ?_
      refine gM_0_from C hX12_laySpans_0_X12 hK hP mX12_laySpans_0_2 dX12_laySpans_11 ?_
      refine lv_iload_n C.1 C.2.1 dX12_laySpans_14 rfl (lv_at hl 2 rfl) ?_
      refine lv_aload_n C.1 C.2.1 dX12_laySpans_15 rfl (lv_at hl 0 rfl) ?_
      refine gM_0_partFrom C hX12_laySpans_0_X12 hK hP mX12_laySpans_0_3 dX12_laySpans_16 ?_
      refine lv_iload_n C.1 C.2.1 dX12_laySpans_19 rfl (lv_at hl 2 rfl) ?_
      obtain ⟨hg1, h⟩ := gd_some h
      refine lM_7 C hK hP hg1 dX12_laySpans_20 ?_
      obtain ⟨hg2, h⟩ := gd_some h
      refine tM_16 C hK hP hJ hS hg2 dX12_laySpans_21 (fun H locs hP hS => ?_)
      obtain ⟨u3, hu4, h⟩ := lt_some h
      rw [← hu4] at hP
      refine lv_aload_n C.1 C.2.1 dX12_laySpans_22 rfl (lv_at hl 0 rfl) ?_
      refine gM_0_to C hX12_laySpans_0_X12 hK hP mX12_laySpans_0_4 dX12_laySpans_23 ?_
      refine lv_iload_n C.1 C.2.1 dX12_laySpans_26 rfl (lv_at hl 2 rfl) ?_
      refine lv_aload_n C.1 C.2.1 dX12_laySpans_27 rfl (lv_at hl 0 rfl) ?_
      refine gM_0_partTo C hX12_laySpans_0_X12 hK hP mX12_laySpans_0_5 dX12_laySpans_28 ?_
      refine lv_iload_n C.1 C.2.1 dX12_laySpans_31 rfl (lv_at hl 2 rfl) ?_
      obtain ⟨hg5, h⟩ := gd_some h
      refine lM_8 C hK hP hg5 dX12_laySpans_32 ?_
      obtain ⟨hg6, h⟩ := gd_some h
      refine tM_17 C hK hP hJ hS hg6 dX12_laySpans_33 (fun H locs hP hS => ?_)
      obtain ⟨u7, hu8, h⟩ := lt_some h
      rw [← hu8] at hP
      refine lv_iinc (v := z2 + 1) (lv' := [(2, .int (z2 + 1)), (0, .ref (ad 0)), (1, .int z1)]) C.1 C.2.1 dX12_laySpans_34 hl (k := 2) rfl rfl (by decide) rfl (fun ls hl => ?_)
      replace hl := lv_sub (l' := [(0, .ref (ad 0)), (1, .int z1), (2, .int (z2 + 1))]) hl [1, 2, 0] rfl
      refine lv_goto (tgt := 2) C.1 C.2.1 dX12_laySpans_37 (by decide) ?_
      exact ih _ _ _ _ _ _ h hP hS hl
set_option maxHeartbeats 4000000 in
set_option maxRecDepth 100000 in
theorem wGX12_laySpans_0_108 {p : Program} {l : Launch} {e : Env} {s : State} {m : MethodId} {args : Array Value} {below : List Frame} {meth : Method} {c : Code} {D : va_G} {cy : Nat → ClassId} {ad st : Nat → Nat} (C : Cx RX12 cX12_laySpans 4 none wsX12_laySpans p s m args meth c) (hK : Kx D [(cy 0, .int), (cy 1, .long), (cy 2, .boolean), (cy 3, .byte), (cy 4, .object "HissHorn$Text")] st s) (hJ : JM ad) {r : Int32} {u' : SX} {k42 : Int32 → Int32 → SX → Option (Int32 × SX)} (hk42 : ∀ (z1 : Int32) (z2 : Int32) (u : SX) (H : Heap) (locs : List Loc) (ls : Array Slot), k42 z1 z2 u = some (r, u') → va_P D vwCl (VM cy ad st u) H → va_S (Ax (AM ad) s.heap.size) s.heap H locs → lv_has ls 4 [(0, .ref (ad 0)), (1, .int z1), (2, .int z2)] → W p l e rmX12_laySpans_0 s m args below meth c H locs 0 0 (MQ below (Qv D (VM cy ad st) (AM ad) s.heap.size r u') args s 0 0 (Ax (AM ad) s.heap.size)) (F0 m 42 ls [])) (z1 : Int32) (z2 : Int32) (u : SX) (H : Heap) (locs : List Loc) (ls : Array Slot) (h : GX12_laySpans_0_108 k42 z1 z2 u = some (r, u')) (hP : va_P D vwCl (VM cy ad st u) H) (hS : va_S (Ax (AM ad) s.heap.size) s.heap H locs) (hl : lv_has ls 4 [(0, .ref (ad 0)), (1, .int z1), (2, .int z2)]) : W p l e rmX12_laySpans_0 s m args below meth c H locs 0 0 (MQ below (Qv D (VM cy ad st) (AM ad) s.heap.size r u') args s 0 0 (Ax (AM ad) s.heap.size)) (F0 m 108 ls []) := by
  unfold GX12_laySpans_0_108 at h
  refine lv_iinc (v := z2 + 1) (lv' := [(2, .int (z2 + 1)), (0, .ref (ad 0)), (1, .int z1)]) C.1 C.2.1 dX12_laySpans_108 hl (k := 2) rfl rfl (by decide) rfl (fun ls hl => ?_)
  replace hl := lv_sub (l' := [(0, .ref (ad 0)), (1, .int z1), (2, .int (z2 + 1))]) hl [1, 2, 0] rfl
  refine lv_goto (tgt := 42) C.1 C.2.1 dX12_laySpans_111 (by decide) ?_
  exact hk42 _ _ _ _ _ _ h hP hS hl
set_option maxHeartbeats 4000000 in
set_option maxRecDepth 100000 in
theorem wLX12_laySpans_0_42 {p : Program} {l : Launch} {e : Env} {s : State} {m : MethodId} {args : Array Value} {below : List Frame} {meth : Method} {c : Code} {D : va_G} {cy : Nat → ClassId} {ad st : Nat → Nat} (C : Cx RX12 cX12_laySpans 4 none wsX12_laySpans p s m args meth c) (hK : Kx D [(cy 0, .int), (cy 1, .long), (cy 2, .boolean), (cy 3, .byte), (cy 4, .object "HissHorn$Text")] st s) (hJ : JM ad) {r : Int32} {u' : SX}   : ∀ (n : Nat) (z1 : Int32) (z2 : Int32) (u : SX) (H : Heap) (locs : List Loc) (ls : Array Slot), LX12_laySpans_0_42  n z1 z2 u = some (r, u') → va_P D vwCl (VM cy ad st u) H → va_S (Ax (AM ad) s.heap.size) s.heap H locs → lv_has ls 4 [(0, .ref (ad 0)), (1, .int z1), (2, .int z2)] → W p l e rmX12_laySpans_0 s m args below meth c H locs 0 0 (MQ below (Qv D (VM cy ad st) (AM ad) s.heap.size r u') args s 0 0 (Ax (AM ad) s.heap.size)) (F0 m 42 ls []) := by
  intro n
  induction n with
  | zero =>
    intro z1 z2 u H locs ls h
    exact absurd h (by intro q; cases q)
  | succ n ih =>
    intro z1 z2 u H locs ls h hP hS hl
    rw [LX12_laySpans_0_42] at h
    refine lv_iload_n C.1 C.2.1 dX12_laySpans_42 rfl (lv_at hl 2 rfl) ?_
    refine lv_iload_n C.1 C.2.1 dX12_laySpans_43 rfl (lv_at hl 1 rfl) ?_
    refine lv_icmp_ge (tgt := 114) C.1 C.2.1 dX12_laySpans_44 (by decide) (fun c44 => ?_) (fun c44 => ?_)
    · rw [if_pos c44] at h
      cases h
      exact rt_v C hP hS dX12_laySpans_114
    · rw [if_neg c44] at h
      refine lv_aload_n C.1 C.2.1 dX12_laySpans_47 rfl (lv_at hl 0 rfl) ?_
      refine gM_0_eventPart C hX12_laySpans_0_X12 hK hP mX12_laySpans_0_6 dX12_laySpans_48 ?_
      refine lv_iload_n C.1 C.2.1 dX12_laySpans_51 rfl (lv_at hl 2 rfl) ?_
      obtain ⟨hg9, h⟩ := gd_some h
      refine lM_12 C hK hP hg9 dX12_laySpans_52 ?_
      refine lv_topi (fun v10 hv11 => ?_)
      replace h := lt_e hv11 h
      try dsimp only at h
      refine lv_istore_n (lv' := [(3, .int v10), (0, .ref (ad 0)), (1, .int z1), (2, .int z2)]) C.1 C.2.1 dX12_laySpans_53 rfl hl (by decide) rfl (fun ls hl => ?_)
      replace hl := lv_sub (l' := [(0, .ref (ad 0)), (1, .int z1), (2, .int z2), (3, .int v10)]) hl [1, 2, 3, 0] rfl
      refine lv_aload_n C.1 C.2.1 dX12_laySpans_54 rfl (lv_at hl 0 rfl) ?_
      refine gM_0_eventLook C hX12_laySpans_0_X12 hK hP mX12_laySpans_0_7 dX12_laySpans_55 ?_
      refine lv_iload_n C.1 C.2.1 dX12_laySpans_58 rfl (lv_at hl 2 rfl) ?_
      obtain ⟨hg12, h⟩ := gd_some h
      refine lM_11 C hK hP hg12 dX12_laySpans_59 ?_
      refine lv_iconst (v := (-1)) C.1 C.2.1 dX12_laySpans_60 (by decide) ?_
      refine lv_icmp_ne (tgt := 91) C.1 C.2.1 dX12_laySpans_61 (by decide) (fun c61 => ?_) (fun c61 => ?_)
      · rw [if_neg c61] at h
        refine lv_aload_n C.1 C.2.1 dX12_laySpans_91 rfl (lv_at hl 0 rfl) ?_
        refine lv_iload_n C.1 C.2.1 dX12_laySpans_92 rfl (lv_at hl 3 rfl) ?_
        refine lv_aload_n C.1 C.2.1 dX12_laySpans_93 rfl (lv_at hl 0 rfl) ?_
        refine gM_0_eventFrom C hX12_laySpans_0_X12 hK hP mX12_laySpans_0_8 dX12_laySpans_94 ?_
        refine lv_iload_n C.1 C.2.1 dX12_laySpans_97 rfl (lv_at hl 2 rfl) ?_
        obtain ⟨hg13, h⟩ := gd_some h
        refine lM_13 C hK hP hg13 dX12_laySpans_98 ?_
        refine lv_aload_n C.1 C.2.1 dX12_laySpans_99 rfl (lv_at hl 0 rfl) ?_
        refine gM_0_eventTo C hX12_laySpans_0_X12 hK hP mX12_laySpans_0_9 dX12_laySpans_100 ?_
        refine lv_iload_n C.1 C.2.1 dX12_laySpans_103 rfl (lv_at hl 2 rfl) ?_
        obtain ⟨hg14, h⟩ := gd_some h
        refine lM_14 C hK hP hg14 dX12_laySpans_104 ?_
        obtain ⟨⟨r15, u16⟩, hc17, h⟩ := bd_some h
        try dsimp only at h
        refine cg_v (As := [.int v10, .int (u.2.1 13 z2.toNatClampNeg), .int (u.2.1 14 z2.toNatClampNeg)]) (rest := []) C hK hP hS (metX12_cutDown_0 l D cy ad st hJ _ v10 (u.2.1 13 z2.toNatClampNeg) (u.2.1 14 z2.toNatClampNeg) hc17) (cwV 3 C.2.2.2.2.2.1 gX12_laySpans_X12_cutDown rfl rfl rfl (by decide +kernel) ⟨(Nat.le_of_ble_eq_true rfl), (Nat.le_of_ble_eq_true rfl)⟩) 0 12 rfl rfl rfl hl.1 rfl (Nat.le_of_ble_eq_true rfl) dX12_laySpans_105 ⟨Nat.zero_le _, Nat.zero_le _⟩ (fun H locs hP hS => ?_)
        exact wGX12_laySpans_0_108 C hK hJ ih _ _ _ _ _ _ h hP hS (lv_sub hl [0, 1, 2] rfl)
      · rw [if_pos c61] at h
        refine lv_aload_n C.1 C.2.1 dX12_laySpans_64 rfl (lv_at hl 0 rfl) ?_
        refine gM_0_from C hX12_laySpans_0_X12 hK hP mX12_laySpans_0_2 dX12_laySpans_65 ?_
        refine lv_iload_n C.1 C.2.1 dX12_laySpans_68 rfl (lv_at hl 3 rfl) ?_
        refine lv_aload_n C.1 C.2.1 dX12_laySpans_69 rfl (lv_at hl 0 rfl) ?_
        refine gM_0_eventFrom C hX12_laySpans_0_X12 hK hP mX12_laySpans_0_8 dX12_laySpans_70 ?_
        refine lv_iload_n C.1 C.2.1 dX12_laySpans_73 rfl (lv_at hl 2 rfl) ?_
        obtain ⟨hg18, h⟩ := gd_some h
        refine lM_13 C hK hP hg18 dX12_laySpans_74 ?_
        obtain ⟨hg19, h⟩ := gd_some h
        refine tM_16 C hK hP hJ hS hg19 dX12_laySpans_75 (fun H locs hP hS => ?_)
        obtain ⟨u20, hu21, h⟩ := lt_some h
        rw [← hu21] at hP
        refine lv_aload_n C.1 C.2.1 dX12_laySpans_76 rfl (lv_at hl 0 rfl) ?_
        refine gM_0_to C hX12_laySpans_0_X12 hK hP mX12_laySpans_0_4 dX12_laySpans_77 ?_
        refine lv_iload_n C.1 C.2.1 dX12_laySpans_80 rfl (lv_at hl 3 rfl) ?_
        refine lv_aload_n C.1 C.2.1 dX12_laySpans_81 rfl (lv_at hl 0 rfl) ?_
        refine gM_0_eventTo C hX12_laySpans_0_X12 hK hP mX12_laySpans_0_9 dX12_laySpans_82 ?_
        refine lv_iload_n C.1 C.2.1 dX12_laySpans_85 rfl (lv_at hl 2 rfl) ?_
        obtain ⟨hg22, h⟩ := gd_some h
        refine lM_14 C hK hP hg22 dX12_laySpans_86 ?_
        obtain ⟨hg23, h⟩ := gd_some h
        refine tM_17 C hK hP hJ hS hg23 dX12_laySpans_87 (fun H locs hP hS => ?_)
        obtain ⟨u24, hu25, h⟩ := lt_some h
        rw [← hu25] at hP
        refine lv_goto (tgt := 108) C.1 C.2.1 dX12_laySpans_88 (by decide) ?_
        exact wGX12_laySpans_0_108 C hK hJ ih _ _ _ _ _ _ h hP hS (lv_sub hl [0, 1, 2] rfl)
set_option maxHeartbeats 4000000 in
set_option maxRecDepth 100000 in
theorem wGX12_laySpans_0_40 {p : Program} {l : Launch} {e : Env} {s : State} {m : MethodId} {args : Array Value} {below : List Frame} {meth : Method} {c : Code} {D : va_G} {cy : Nat → ClassId} {ad st : Nat → Nat} (C : Cx RX12 cX12_laySpans 4 none wsX12_laySpans p s m args meth c) (hK : Kx D [(cy 0, .int), (cy 1, .long), (cy 2, .boolean), (cy 3, .byte), (cy 4, .object "HissHorn$Text")] st s) (hJ : JM ad) {r : Int32} {u' : SX}   (z1 : Int32) (u : SX) (H : Heap) (locs : List Loc) (ls : Array Slot) (h : GX12_laySpans_0_40 z1 u = some (r, u')) (hP : va_P D vwCl (VM cy ad st u) H) (hS : va_S (Ax (AM ad) s.heap.size) s.heap H locs) (hl : lv_has ls 4 [(0, .ref (ad 0)), (1, .int z1)]) : W p l e rmX12_laySpans_0 s m args below meth c H locs 0 0 (MQ below (Qv D (VM cy ad st) (AM ad) s.heap.size r u') args s 0 0 (Ax (AM ad) s.heap.size)) (F0 m 40 ls []) := by
  unfold GX12_laySpans_0_40 at h
  refine lv_iconst (v := 0) C.1 C.2.1 dX12_laySpans_40 (by decide) ?_
  refine lv_istore_n (lv' := [(2, .int 0), (0, .ref (ad 0)), (1, .int z1)]) C.1 C.2.1 dX12_laySpans_41 rfl hl (by decide) rfl (fun ls hl => ?_)
  replace hl := lv_sub (l' := [(0, .ref (ad 0)), (1, .int z1), (2, .int 0)]) hl [1, 2, 0] rfl
  exact wLX12_laySpans_0_42 C hK hJ  5000 _ _ _ _ _ _ h hP hS hl
set_option maxHeartbeats 4000000 in
set_option maxRecDepth 100000 in
theorem wX12_laySpans_0 {p : Program} {l : Launch} {e : Env} {s : State} {m : MethodId} {args : Array Value} {below : List Frame} {meth : Method} {c : Code} {D : va_G} {cy : Nat → ClassId} {ad st : Nat → Nat} (C : Cx RX12 cX12_laySpans 4 none wsX12_laySpans p s m args meth c) (hK : Kx D [(cy 0, .int), (cy 1, .long), (cy 2, .boolean), (cy 3, .byte), (cy 4, .object "HissHorn$Text")] st s) (hJ : JM ad) (x1 : Int32) {u : SX} {r : Int32} {u' : SX} {H : Heap} {locs : List Loc} {ls : Array Slot} (h : fX12_laySpans_0 x1 u = some (r, u')) (hP : va_P D vwCl (VM cy ad st u) H) (hS : va_S (Ax (AM ad) s.heap.size) s.heap H locs) (hl : lv_has ls 4 [(0, .ref (ad 0)), (1, .int x1)]) : W p l e rmX12_laySpans_0 s m args below meth c H locs 0 0 (MQ below (Qv D (VM cy ad st) (AM ad) s.heap.size r u') args s 0 0 (Ax (AM ad) s.heap.size)) (F0 m 0 ls []) := by
  unfold fX12_laySpans_0 at h
  refine lv_iconst (v := 0) C.1 C.2.1 dX12_laySpans_0 (by decide) ?_
  refine lv_istore_n (lv' := [(2, .int 0), (0, .ref (ad 0)), (1, .int x1)]) C.1 C.2.1 dX12_laySpans_1 rfl hl (by decide) rfl (fun ls hl => ?_)
  replace hl := lv_sub (l' := [(0, .ref (ad 0)), (1, .int x1), (2, .int 0)]) hl [1, 2, 0] rfl
  exact wLX12_laySpans_0_2 C hK hJ (wGX12_laySpans_0_40 C hK hJ ) 5000 _ _ _ _ _ _ h hP hS hl
theorem metX12_laySpans_0 (l : Launch) (D : va_G) (cy : Nat → ClassId) (ad st : Nat → Nat) (hJ : JM ad) (sz : Nat) (x1 : Int32) {u : SX} {r : Int32} {u' : SX} (h : fX12_laySpans_0 x1 u = some (r, u')) : Met l yX12_laySpans wsX12_laySpans rmX12_laySpans_0 (va_Pc [.ref (ad 0), .int x1] (Px D [(cy 0, .int), (cy 1, .long), (cy 2, .boolean), (cy 3, .byte), (cy 4, .object "HissHorn$Text")] st (VM cy ad st) sz u)) (Qv D (VM cy ad st) (AM ad) sz r u') 0 0 (Ax (AM ad) sz) := by
  refine Met.ofW (cc := cX12_laySpans) (maxL := 4) (ret := none) (by decide) rfl ?_
  intro p e s m args below meth c s₁ B hml hv
  obtain ⟨rfl, hsz, hP, hK⟩ := hv
  subst hsz
  have C : Cx RX12 cX12_laySpans 4 none wsX12_laySpans p s m _ meth c := ⟨B.exec, B.bytes, hml, B.returns, findClass_of_methodNamed B.named, atoms_spec (ws := wsX12_laySpans) B.pre, B.notSynchronized⟩
  have hl := lv_entry ([.ref (ad 0), .int x1]) (n := 4) (Nat.le_of_ble_eq_true rfl)
  rw [lg_entry_eq]
  exact wX12_laySpans_0 C hK hJ x1 h hP va_S.rf hl

theorem dX12_laySpansOf_2 : decode cX12_laySpansOf 2 = .ok (.iload_n 2, 1) := by decide +kernel
theorem dX12_laySpansOf_3 : decode cX12_laySpansOf 3 = .ok (.aload_n 0, 1) := by decide +kernel
theorem dX12_laySpansOf_4 : decode cX12_laySpansOf 4 = .ok (.getfield 301, 3) := by decide +kernel
theorem dX12_laySpansOf_7 : decode cX12_laySpansOf 7 = .ok (.if_icmp .ge 19, 3) := by decide +kernel
theorem dX12_laySpansOf_10 : decode cX12_laySpansOf 10 = .ok (.aload_n 0, 1) := by decide +kernel
theorem dX12_laySpansOf_11 : decode cX12_laySpansOf 11 = .ok (.getfield 62, 3) := by decide +kernel
theorem dX12_laySpansOf_14 : decode cX12_laySpansOf 14 = .ok (.iload_n 2, 1) := by decide +kernel
theorem dX12_laySpansOf_15 : decode cX12_laySpansOf 15 = .ok (.iaload, 1) := by decide +kernel
theorem dX12_laySpansOf_16 : decode cX12_laySpansOf 16 = .ok (.iload_n 1, 1) := by decide +kernel
theorem dX12_laySpansOf_17 : decode cX12_laySpansOf 17 = .ok (.if_icmp .gt 9, 3) := by decide +kernel
theorem dX12_laySpansOf_20 : decode cX12_laySpansOf 20 = .ok (.iinc 2 1, 3) := by decide +kernel
theorem dX12_laySpansOf_23 : decode cX12_laySpansOf 23 = .ok (.goto (-21), 3) := by decide +kernel
theorem dX12_laySpansOf_26 : decode cX12_laySpansOf 26 = .ok (.aload_n 0, 1) := by decide +kernel
theorem dX12_laySpansOf_27 : decode cX12_laySpansOf 27 = .ok (.iload_n 2, 1) := by decide +kernel
set_option maxRecDepth 20000 in
theorem ggX12_laySpansOf_X12_laySpans : GoodIn wsX12_laySpansOf wsX12_laySpans := goodIn_r _ [7, 8, 9, 10, 11, 12, 13, 14, 15, 16, 17, 18, 19, 6, 20, 21, 22, 23, 24, 25, 26, 27, 28, 29, 30, 31, 32, 33, 34, 35, 36, 37, 38, 39, 40, 41, 42, 43, 44, 45, 46, 47, 48, 49, 50, 51, 52, 53, 54, 55, 56, 57, 58, 59, 60, 61, 62, 63, 64, 65, 66, 67, 68, 69, 70, 71, 72, 73, 74, 75, 76, 77, 78, 79, 80, 81, 82, 83, 84, 85, 86, 87, 88, 89, 90, 91, 92, 93, 94, 95, 96] (by decide +kernel) (by decide +kernel)
set_option maxRecDepth 20000 in
theorem gX12_laySpansOf_X12_laySpans : GoodIn wsX12_laySpansOf (wsV RX12 304 RX12 yX12_laySpans wsX12_laySpans) := goodIn_app (goodIn_of _ (by decide +kernel)) ggX12_laySpansOf_X12_laySpans
theorem dX12_laySpansOf_28 : decode cX12_laySpansOf 28 = .ok (.invokevirtual 304, 3) := by decide +kernel
theorem dX12_laySpansOf_31 : decode cX12_laySpansOf 31 = .ok (.return_, 1) := by decide +kernel
theorem dX12_laySpansOf_0 : decode cX12_laySpansOf 0 = .ok (.iconst 0, 1) := by decide +kernel
theorem dX12_laySpansOf_1 : decode cX12_laySpansOf 1 = .ok (.istore_n 2, 1) := by decide +kernel
/-- HissHornModel.laySpansOf(I)V of cell 0 -/
def rmX12_laySpansOf_0 : Room := { frames := 3, cells := 0, slots := 0, locals := 62 }
theorem hX12_laySpansOf_0_X12 : ∀ w ∈ u_ws RX12 TX12 69, w ∈ wsX12_laySpansOf := fun w h => (List.mem_cons_of_mem _ (List.mem_append_right _ h))
theorem mX12_laySpansOf_0_1 : Cond.fieldLink RX12 301 "HissHornModel" "events" "I" ∈ wsX12_laySpansOf := (List.mem_cons_of_mem _ (List.mem_append_left _ (List.mem_append_left _ (List.mem_of_getElem? (i := 0) rfl))))
theorem mX12_laySpansOf_0_2 : Cond.fieldLink RX12 62 "HissHornModel" "eventDay" "[I" ∈ wsX12_laySpansOf := (List.mem_cons_of_mem _ (List.mem_append_left _ (List.mem_append_left _ (List.mem_of_getElem? (i := 1) rfl))))
def LX12_laySpansOf_0_2 (k26 : Int32 → SX → Option (Int32 × SX)) : Nat → Int32 → Int32 → SX → Option (Int32 × SX)
  | 0, _, _, _ => none
  | n + 1, z1, z2, u => (if (u.1 13) ≤ z2 then (k26 z2 u) else (gd (inb z2 30) (if z1 < (u.2.1 15 z2.toNatClampNeg) then (k26 z2 u) else ((LX12_laySpansOf_0_2 k26 n) z1 (z2 + 1) u))))
def GX12_laySpansOf_0_26 (z2 : Int32) (u : SX) : Option (Int32 × SX) := ((fX12_laySpans_0 z2 u).bind fun q => match q with | (r2, u3) => (some (0, u3)))
def fX12_laySpansOf_0 (x1 : Int32) (u : SX) : Option (Int32 × SX) := (LX12_laySpansOf_0_2 GX12_laySpansOf_0_26 5000 x1 0 u)
set_option maxHeartbeats 4000000 in
set_option maxRecDepth 100000 in
theorem wLX12_laySpansOf_0_2 {p : Program} {l : Launch} {e : Env} {s : State} {m : MethodId} {args : Array Value} {below : List Frame} {meth : Method} {c : Code} {D : va_G} {cy : Nat → ClassId} {ad st : Nat → Nat} (C : Cx RX12 cX12_laySpansOf 3 none wsX12_laySpansOf p s m args meth c) (hK : Kx D [(cy 0, .int), (cy 1, .long), (cy 2, .boolean), (cy 3, .byte), (cy 4, .object "HissHorn$Text")] st s) (hJ : JM ad) {r : Int32} {u' : SX} {k26 : Int32 → SX → Option (Int32 × SX)} (hk26 : ∀ (z2 : Int32) (u : SX) (H : Heap) (locs : List Loc) (ls : Array Slot), k26 z2 u = some (r, u') → va_P D vwCl (VM cy ad st u) H → va_S (Ax (AM ad) s.heap.size) s.heap H locs → lv_has ls 3 [(0, .ref (ad 0)), (2, .int z2)] → W p l e rmX12_laySpansOf_0 s m args below meth c H locs 0 0 (MQ below (Qv D (VM cy ad st) (AM ad) s.heap.size r u') args s 0 0 (Ax (AM ad) s.heap.size)) (F0 m 26 ls [])) : ∀ (n : Nat) (z1 : Int32) (z2 : Int32) (u : SX) (H : Heap) (locs : List Loc) (ls : Array Slot), LX12_laySpansOf_0_2 k26 n z1 z2 u = some (r, u') → va_P D vwCl (VM cy ad st u) H → va_S (Ax (AM ad) s.heap.size) s.heap H locs → lv_has ls 3 [(0, .ref (ad 0)), (1, .int z1), (2, .int z2)] → W p l e rmX12_laySpansOf_0 s m args below meth c H locs 0 0 (MQ below (Qv D (VM cy ad st) (AM ad) s.heap.size r u') args s 0 0 (Ax (AM ad) s.heap.size)) (F0 m 2 ls []) := by
  intro n
  induction n with
  | zero =>
    intro z1 z2 u H locs ls h
    exact absurd h (by intro q; cases q)
  | succ n ih =>
    intro z1 z2 u H locs ls h hP hS hl
    rw [LX12_laySpansOf_0_2] at h
    refine lv_iload_n C.1 C.2.1 dX12_laySpansOf_2 rfl (lv_at hl 2 rfl) ?_
    refine lv_aload_n C.1 C.2.1 dX12_laySpansOf_3 rfl (lv_at hl 0 rfl) ?_
    refine gM_0_events C hX12_laySpansOf_0_X12 hK hP mX12_laySpansOf_0_1 dX12_laySpansOf_4 ?_
    refine lv_icmp_ge (tgt := 26) C.1 C.2.1 dX12_laySpansOf_7 (by decide) (fun c7 => ?_) (fun c7 => ?_)
    · rw [if_pos c7] at h
      exact hk26 _ _ _ _ _ h hP hS (lv_sub hl [0, 2] rfl)
    · rw [if_neg c7] at h
      refine lv_aload_n C.1 C.2.1 dX12_laySpansOf_10 rfl (lv_at hl 0 rfl) ?_
      refine gM_0_eventDay C hX12_laySpansOf_0_X12 hK hP mX12_laySpansOf_0_2 dX12_laySpansOf_11 ?_
      refine lv_iload_n C.1 C.2.1 dX12_laySpansOf_14 rfl (lv_at hl 2 rfl) ?_
      obtain ⟨hg1, h⟩ := gd_some h
      refine lM_15 C hK hP hg1 dX12_laySpansOf_15 ?_
      refine lv_iload_n C.1 C.2.1 dX12_laySpansOf_16 rfl (lv_at hl 1 rfl) ?_
      refine lv_icmp_gt (tgt := 26) C.1 C.2.1 dX12_laySpansOf_17 (by decide) (fun c17 => ?_) (fun c17 => ?_)
      · rw [if_pos c17] at h
        exact hk26 _ _ _ _ _ h hP hS (lv_sub hl [0, 2] rfl)
      · rw [if_neg c17] at h
        refine lv_iinc (v := z2 + 1) (lv' := [(2, .int (z2 + 1)), (0, .ref (ad 0)), (1, .int z1)]) C.1 C.2.1 dX12_laySpansOf_20 hl (k := 2) rfl rfl (by decide) rfl (fun ls hl => ?_)
        replace hl := lv_sub (l' := [(0, .ref (ad 0)), (1, .int z1), (2, .int (z2 + 1))]) hl [1, 2, 0] rfl
        refine lv_goto (tgt := 2) C.1 C.2.1 dX12_laySpansOf_23 (by decide) ?_
        exact ih _ _ _ _ _ _ h hP hS hl
set_option maxHeartbeats 4000000 in
set_option maxRecDepth 100000 in
theorem wGX12_laySpansOf_0_26 {p : Program} {l : Launch} {e : Env} {s : State} {m : MethodId} {args : Array Value} {below : List Frame} {meth : Method} {c : Code} {D : va_G} {cy : Nat → ClassId} {ad st : Nat → Nat} (C : Cx RX12 cX12_laySpansOf 3 none wsX12_laySpansOf p s m args meth c) (hK : Kx D [(cy 0, .int), (cy 1, .long), (cy 2, .boolean), (cy 3, .byte), (cy 4, .object "HissHorn$Text")] st s) (hJ : JM ad) {r : Int32} {u' : SX}   (z2 : Int32) (u : SX) (H : Heap) (locs : List Loc) (ls : Array Slot) (h : GX12_laySpansOf_0_26 z2 u = some (r, u')) (hP : va_P D vwCl (VM cy ad st u) H) (hS : va_S (Ax (AM ad) s.heap.size) s.heap H locs) (hl : lv_has ls 3 [(0, .ref (ad 0)), (2, .int z2)]) : W p l e rmX12_laySpansOf_0 s m args below meth c H locs 0 0 (MQ below (Qv D (VM cy ad st) (AM ad) s.heap.size r u') args s 0 0 (Ax (AM ad) s.heap.size)) (F0 m 26 ls []) := by
  unfold GX12_laySpansOf_0_26 at h
  refine lv_aload_n C.1 C.2.1 dX12_laySpansOf_26 rfl (lv_at hl 0 rfl) ?_
  refine lv_iload_n C.1 C.2.1 dX12_laySpansOf_27 rfl (lv_at hl 1 rfl) ?_
  obtain ⟨⟨r2, u3⟩, hc4, h⟩ := bd_some h
  try dsimp only at h
  refine cg_v (As := [.int z2]) (rest := []) C hK hP hS (metX12_laySpans_0 l D cy ad st hJ _ z2 hc4) (cwV 1 C.2.2.2.2.2.1 gX12_laySpansOf_X12_laySpans rfl rfl rfl (by decide +kernel) ⟨(Nat.le_of_ble_eq_true rfl), (Nat.le_of_ble_eq_true rfl)⟩) 0 12 rfl rfl rfl hl.1 rfl (Nat.le_of_ble_eq_true rfl) dX12_laySpansOf_28 ⟨Nat.zero_le _, Nat.zero_le _⟩ (fun H locs hP hS => ?_)
  cases h
  exact rt_v C hP hS dX12_laySpansOf_31
set_option maxHeartbeats 4000000 in
set_option maxRecDepth 100000 in
theorem wX12_laySpansOf_0 {p : Program} {l : Launch} {e : Env} {s : State} {m : MethodId} {args : Array Value} {below : List Frame} {meth : Method} {c : Code} {D : va_G} {cy : Nat → ClassId} {ad st : Nat → Nat} (C : Cx RX12 cX12_laySpansOf 3 none wsX12_laySpansOf p s m args meth c) (hK : Kx D [(cy 0, .int), (cy 1, .long), (cy 2, .boolean), (cy 3, .byte), (cy 4, .object "HissHorn$Text")] st s) (hJ : JM ad) (x1 : Int32) {u : SX} {r : Int32} {u' : SX} {H : Heap} {locs : List Loc} {ls : Array Slot} (h : fX12_laySpansOf_0 x1 u = some (r, u')) (hP : va_P D vwCl (VM cy ad st u) H) (hS : va_S (Ax (AM ad) s.heap.size) s.heap H locs) (hl : lv_has ls 3 [(0, .ref (ad 0)), (1, .int x1)]) : W p l e rmX12_laySpansOf_0 s m args below meth c H locs 0 0 (MQ below (Qv D (VM cy ad st) (AM ad) s.heap.size r u') args s 0 0 (Ax (AM ad) s.heap.size)) (F0 m 0 ls []) := by
  unfold fX12_laySpansOf_0 at h
  refine lv_iconst (v := 0) C.1 C.2.1 dX12_laySpansOf_0 (by decide) ?_
  refine lv_istore_n (lv' := [(2, .int 0), (0, .ref (ad 0)), (1, .int x1)]) C.1 C.2.1 dX12_laySpansOf_1 rfl hl (by decide) rfl (fun ls hl => ?_)
  replace hl := lv_sub (l' := [(0, .ref (ad 0)), (1, .int x1), (2, .int 0)]) hl [1, 2, 0] rfl
  exact wLX12_laySpansOf_0_2 C hK hJ (wGX12_laySpansOf_0_26 C hK hJ ) 5000 _ _ _ _ _ _ h hP hS hl
theorem metX12_laySpansOf_0 (l : Launch) (D : va_G) (cy : Nat → ClassId) (ad st : Nat → Nat) (hJ : JM ad) (sz : Nat) (x1 : Int32) {u : SX} {r : Int32} {u' : SX} (h : fX12_laySpansOf_0 x1 u = some (r, u')) : Met l yX12_laySpansOf wsX12_laySpansOf rmX12_laySpansOf_0 (va_Pc [.ref (ad 0), .int x1] (Px D [(cy 0, .int), (cy 1, .long), (cy 2, .boolean), (cy 3, .byte), (cy 4, .object "HissHorn$Text")] st (VM cy ad st) sz u)) (Qv D (VM cy ad st) (AM ad) sz r u') 0 0 (Ax (AM ad) sz) := by
  refine Met.ofW (cc := cX12_laySpansOf) (maxL := 3) (ret := none) (by decide) rfl ?_
  intro p e s m args below meth c s₁ B hml hv
  obtain ⟨rfl, hsz, hP, hK⟩ := hv
  subst hsz
  have C : Cx RX12 cX12_laySpansOf 3 none wsX12_laySpansOf p s m _ meth c := ⟨B.exec, B.bytes, hml, B.returns, findClass_of_methodNamed B.named, atoms_spec (ws := wsX12_laySpansOf) B.pre, B.notSynchronized⟩
  have hl := lv_entry ([.ref (ad 0), .int x1]) (n := 3) (Nat.le_of_ble_eq_true rfl)
  rw [lg_entry_eq]
  exact wX12_laySpansOf_0 C hK hJ x1 h hP va_S.rf hl

theorem dX12_isKnown_0 : decode cX12_isKnown 0 = .ok (.iload_n 2, 1) := by decide +kernel
theorem dX12_isKnown_1 : decode cX12_isKnown 1 = .ok (.iconst 0, 1) := by decide +kernel
theorem dX12_isKnown_2 : decode cX12_isKnown 2 = .ok (.aload_n 0, 1) := by decide +kernel
theorem dX12_isKnown_3 : decode cX12_isKnown 3 = .ok (.getfield 159, 3) := by decide +kernel
set_option maxRecDepth 20000 in
theorem ggX12_isKnown_X12_isIn : GoodIn wsX12_isKnown wsX12_isIn := goodIn_r _ [5] (by decide +kernel) (by decide +kernel)
set_option maxRecDepth 20000 in
theorem gX12_isKnown_X12_isIn : GoodIn wsX12_isKnown (va_wsS RX12 155 yX12_isIn wsX12_isIn) := goodIn_app (goodIn_of _ (by decide +kernel)) ggX12_isKnown_X12_isIn
theorem dX12_isKnown_6 : decode cX12_isKnown 6 = .ok (.invokestatic 155, 3) := by decide +kernel
theorem dX12_isKnown_9 : decode cX12_isKnown 9 = .ok (.ifCond .eq 12, 3) := by decide +kernel
theorem dX12_isKnown_21 : decode cX12_isKnown 21 = .ok (.iconst 0, 1) := by decide +kernel
theorem dX12_isKnown_22 : decode cX12_isKnown 22 = .ok (.ireturn, 1) := by decide +kernel
theorem dX12_isKnown_12 : decode cX12_isKnown 12 = .ok (.iload_n 1, 1) := by decide +kernel
theorem dX12_isKnown_13 : decode cX12_isKnown 13 = .ok (.iload_n 2, 1) := by decide +kernel
theorem dX12_isKnown_14 : decode cX12_isKnown 14 = .ok (.if_icmp .gt 7, 3) := by decide +kernel
theorem dX12_isKnown_17 : decode cX12_isKnown 17 = .ok (.iconst 1, 1) := by decide +kernel
theorem dX12_isKnown_18 : decode cX12_isKnown 18 = .ok (.goto 4, 3) := by decide +kernel
/-- HissHornModel.isKnown(II)Z of cell 0 -/
def rmX12_isKnown_0 : Room := { frames := 1, cells := 0, slots := 0, locals := 22 }
theorem hX12_isKnown_0_X12 : ∀ w ∈ u_ws RX12 TX12 69, w ∈ wsX12_isKnown := fun w h => (List.mem_cons_of_mem _ (List.mem_append_right _ h))
theorem mX12_isKnown_0_1 : Cond.fieldLink RX12 159 "HissHornModel" "now" "I" ∈ wsX12_isKnown := (List.mem_cons_of_mem _ (List.mem_append_left _ (List.mem_of_getElem? (i := 0) rfl)))
def fX12_isKnown_0 (x1 : Int32) (x2 : Int32) (u : SX) : Option (Int32 × SX) := ((fX12_isIn x2 0 (u.1 1)).bind fun r1 => (if r1 = 0 then (gd (isB 0) (some (0, u))) else (if x2 < x1 then (gd (isB 0) (some (0, u))) else (gd (isB 1) (some (1, u))))))
set_option maxHeartbeats 4000000 in
set_option maxRecDepth 100000 in
theorem wX12_isKnown_0 {p : Program} {l : Launch} {e : Env} {s : State} {m : MethodId} {args : Array Value} {below : List Frame} {meth : Method} {c : Code} {D : va_G} {cy : Nat → ClassId} {ad st : Nat → Nat} (C : Cx RX12 cX12_isKnown 3 (some .boolean) wsX12_isKnown p s m args meth c) (hK : Kx D [(cy 0, .int), (cy 1, .long), (cy 2, .boolean), (cy 3, .byte), (cy 4, .object "HissHorn$Text")] st s) (hJ : JM ad) (x1 : Int32) (x2 : Int32) {u : SX} {r : Int32} {u' : SX} {H : Heap} {locs : List Loc} {ls : Array Slot} (h : fX12_isKnown_0 x1 x2 u = some (r, u')) (hP : va_P D vwCl (VM cy ad st u) H) (hS : va_S (Ax (AM ad) s.heap.size) s.heap H locs) (hl : lv_has ls 3 [(0, .ref (ad 0)), (1, .int x1), (2, .int x2)]) : W p l e rmX12_isKnown_0 s m args below meth c H locs 0 0 (MQ below (Qi D (VM cy ad st) (AM ad) s.heap.size r u') args s 0 0 (Ax (AM ad) s.heap.size)) (F0 m 0 ls []) := by
  unfold fX12_isKnown_0 at h
  refine lv_iload_n C.1 C.2.1 dX12_isKnown_0 rfl (lv_at hl 2 rfl) ?_
  refine lv_iconst (v := 0) C.1 C.2.1 dX12_isKnown_1 (by decide) ?_
  refine lv_aload_n C.1 C.2.1 dX12_isKnown_2 rfl (lv_at hl 0 rfl) ?_
  refine gM_0_now C hX12_isKnown_0_X12 hK hP mX12_isKnown_0_1 dX12_isKnown_3 ?_
  obtain ⟨r1, hc3, h⟩ := bd_some h
  refine cs_i (As := [.int x2, .int 0, .int (u.1 1)]) (rest := []) C hK hP hS (metX12_isIn l D cy st _ x2 0 (u.1 1) hc3) (va_cwS 3 C.2.2.2.2.2.1 gX12_isKnown_X12_isIn rfl rfl rfl (by decide +kernel) ⟨(Nat.le_of_ble_eq_true rfl), (Nat.le_of_ble_eq_true rfl)⟩) rfl hl.1 rfl (Nat.le_of_ble_eq_true rfl) dX12_isKnown_6 ⟨Nat.zero_le _, Nat.zero_le _⟩ (fun H locs hP hS => ?_)
  refine lv_if_eq (tgt := 21) C.1 C.2.1 dX12_isKnown_9 (by decide) (fun c9 => ?_) (fun c9 => ?_)
  · rw [if_pos c9] at h
    refine lv_iconst (v := 0) C.1 C.2.1 dX12_isKnown_21 (by decide) ?_
    obtain ⟨hg4, h⟩ := gd_some h
    cases h
    exact rt_z hg4 C hP hS dX12_isKnown_22
  · rw [if_neg c9] at h
    refine lv_iload_n C.1 C.2.1 dX12_isKnown_12 rfl (lv_at hl 1 rfl) ?_
    refine lv_iload_n C.1 C.2.1 dX12_isKnown_13 rfl (lv_at hl 2 rfl) ?_
    refine lv_icmp_gt (tgt := 21) C.1 C.2.1 dX12_isKnown_14 (by decide) (fun c14 => ?_) (fun c14 => ?_)
    · rw [if_pos c14] at h
      refine lv_iconst (v := 0) C.1 C.2.1 dX12_isKnown_21 (by decide) ?_
      obtain ⟨hg5, h⟩ := gd_some h
      cases h
      exact rt_z hg5 C hP hS dX12_isKnown_22
    · rw [if_neg c14] at h
      refine lv_iconst (v := 1) C.1 C.2.1 dX12_isKnown_17 (by decide) ?_
      refine lv_goto (tgt := 22) C.1 C.2.1 dX12_isKnown_18 (by decide) ?_
      obtain ⟨hg6, h⟩ := gd_some h
      cases h
      exact rt_z hg6 C hP hS dX12_isKnown_22
theorem metX12_isKnown_0 (l : Launch) (D : va_G) (cy : Nat → ClassId) (ad st : Nat → Nat) (hJ : JM ad) (sz : Nat) (x1 : Int32) (x2 : Int32) {u : SX} {r : Int32} {u' : SX} (h : fX12_isKnown_0 x1 x2 u = some (r, u')) : Met l yX12_isKnown wsX12_isKnown rmX12_isKnown_0 (va_Pc [.ref (ad 0), .int x1, .int x2] (Px D [(cy 0, .int), (cy 1, .long), (cy 2, .boolean), (cy 3, .byte), (cy 4, .object "HissHorn$Text")] st (VM cy ad st) sz u)) (Qi D (VM cy ad st) (AM ad) sz r u') 0 0 (Ax (AM ad) sz) := by
  refine Met.ofW (cc := cX12_isKnown) (maxL := 3) (ret := (some .boolean)) (by decide) rfl ?_
  intro p e s m args below meth c s₁ B hml hv
  obtain ⟨rfl, hsz, hP, hK⟩ := hv
  subst hsz
  have C : Cx RX12 cX12_isKnown 3 (some .boolean) wsX12_isKnown p s m _ meth c := ⟨B.exec, B.bytes, hml, B.returns, findClass_of_methodNamed B.named, atoms_spec (ws := wsX12_isKnown) B.pre, B.notSynchronized⟩
  have hl := lv_entry ([.ref (ad 0), .int x1, .int x2]) (n := 3) (Nat.le_of_ble_eq_true rfl)
  rw [lg_entry_eq]
  exact wX12_isKnown_0 C hK hJ x1 x2 h hP va_S.rf hl

theorem dX12_span_0 : decode cX12_span 0 = .ok (.aload_n 0, 1) := by decide +kernel
theorem dX12_span_1 : decode cX12_span 1 = .ok (.iconst 0, 1) := by decide +kernel
theorem dX12_span_2 : decode cX12_span 2 = .ok (.putfield 151, 3) := by decide +kernel
theorem dX12_span_5 : decode cX12_span 5 = .ok (.aload_n 0, 1) := by decide +kernel
theorem dX12_span_6 : decode cX12_span 6 = .ok (.iload_n 1, 1) := by decide +kernel
set_option maxRecDepth 20000 in
theorem ggX12_span_X12_isPart : GoodIn wsX12_span wsX12_isPart := goodIn_r _ [9, 10, 46, 47, 48, 49, 50, 51, 52, 53, 54, 55, 56, 57, 58, 59, 60, 61, 62, 63, 64, 65, 66, 67, 68, 69, 70, 71, 72, 73, 74, 75, 76, 77, 78, 79, 80, 81, 82, 83, 84, 85, 86, 87, 88, 89, 90, 91, 92, 93, 94, 95, 96, 97, 98, 99, 100, 101, 102, 103, 104, 105, 106, 107, 108, 109, 110, 111, 112, 113, 114] (by decide +kernel) (by decide +kernel)
set_option maxRecDepth 20000 in
theorem gX12_span_X12_isPart : GoodIn wsX12_span (wsV RX12 307 RX12 yX12_isPart wsX12_isPart) := goodIn_app (goodIn_of _ (by decide +kernel)) ggX12_span_X12_isPart
theorem dX12_span_7 : decode cX12_span 7 = .ok (.invokevirtual 307, 3) := by decide +kernel
theorem dX12_span_10 : decode cX12_span 10 = .ok (.ifCond .eq 26, 3) := by decide +kernel
theorem dX12_span_36 : decode cX12_span 36 = .ok (.iconst (-1), 1) := by decide +kernel
theorem dX12_span_37 : decode cX12_span 37 = .ok (.ireturn, 1) := by decide +kernel
theorem dX12_span_13 : decode cX12_span 13 = .ok (.aload_n 0, 1) := by decide +kernel
theorem dX12_span_14 : decode cX12_span 14 = .ok (.aload_n 0, 1) := by decide +kernel
theorem dX12_span_15 : decode cX12_span 15 = .ok (.getfield 47, 3) := by decide +kernel
theorem dX12_span_18 : decode cX12_span 18 = .ok (.iload_n 1, 1) := by decide +kernel
theorem dX12_span_19 : decode cX12_span 19 = .ok (.iaload, 1) := by decide +kernel
theorem dX12_span_20 : decode cX12_span 20 = .ok (.iload_n 2, 1) := by decide +kernel
set_option maxRecDepth 20000 in
theorem ggX12_span_X12_isKnown : GoodIn wsX12_span wsX12_isKnown := goodIn_r _ [14, 15, 16, 17, 8, 18, 46, 47, 48, 49, 50, 51, 52, 53, 54, 55, 56, 57, 58, 59, 60, 61, 62, 63, 64, 65, 66, 67, 68, 69, 70, 71, 72, 73, 74, 75, 76, 77, 78, 79, 80, 81, 82, 83, 84, 85, 86, 87, 88, 89, 90, 91, 92, 93, 94, 95, 96, 97, 98, 99, 100, 101, 102, 103, 104, 105, 106, 107, 108, 109, 110, 111, 112, 113, 114] (by decide +kernel) (by decide +kernel)
set_option maxRecDepth 20000 in
theorem gX12_span_X12_isKnown : GoodIn wsX12_span (wsV RX12 310 RX12 yX12_isKnown wsX12_isKnown) := goodIn_app (goodIn_of _ (by decide +kernel)) ggX12_span_X12_isKnown
theorem dX12_span_21 : decode cX12_span 21 = .ok (.invokevirtual 310, 3) := by decide +kernel
theorem dX12_span_24 : decode cX12_span 24 = .ok (.ifCond .eq 12, 3) := by decide +kernel
theorem dX12_span_27 : decode cX12_span 27 = .ok (.iload_n 3, 1) := by decide +kernel
theorem dX12_span_28 : decode cX12_span 28 = .ok (.iconst 0, 1) := by decide +kernel
theorem dX12_span_29 : decode cX12_span 29 = .ok (.iconst 1, 1) := by decide +kernel
set_option maxRecDepth 20000 in
theorem ggX12_span_X12_isIn : GoodIn wsX12_span wsX12_isIn := goodIn_r _ [18] (by decide +kernel) (by decide +kernel)
set_option maxRecDepth 20000 in
theorem gX12_span_X12_isIn : GoodIn wsX12_span (va_wsS RX12 155 yX12_isIn wsX12_isIn) := goodIn_app (goodIn_of _ (by decide +kernel)) ggX12_span_X12_isIn
theorem dX12_span_30 : decode cX12_span 30 = .ok (.invokestatic 155, 3) := by decide +kernel
theorem dX12_span_33 : decode cX12_span 33 = .ok (.ifCond .ne 5, 3) := by decide +kernel
theorem dX12_span_38 : decode cX12_span 38 = .ok (.aload_n 0, 1) := by decide +kernel
theorem dX12_span_39 : decode cX12_span 39 = .ok (.iload_n 2, 1) := by decide +kernel
set_option maxRecDepth 20000 in
theorem ggX12_span_X12_laySpansOf : GoodIn wsX12_span wsX12_laySpansOf := goodIn_r _ [22, 23, 24, 25, 26, 27, 8, 28, 10, 3, 29, 4, 30, 31, 32, 33, 34, 35, 36, 37, 38, 39, 40, 41, 42, 43, 44, 45, 46, 47, 48, 49, 50, 51, 52, 53, 54, 55, 56, 57, 58, 59, 60, 61, 62, 63, 64, 65, 66, 67, 68, 69, 70, 71, 72, 73, 74, 75, 76, 77, 78, 79, 80, 81, 82, 83, 84, 85, 86, 87, 88, 89, 90, 91, 92, 93, 94, 95, 96, 97, 98, 99, 100, 101, 102, 103, 104, 105, 106, 107, 108, 109, 110, 111, 112, 113, 114] (by decide +kernel) (by decide +kernel)
set_option maxRecDepth 20000 in
theorem gX12_span_X12_laySpansOf : GoodIn wsX12_span (wsV RX12 313 RX12 yX12_laySpansOf wsX12_laySpansOf) := goodIn_app (goodIn_of _ (by decide +kernel)) ggX12_span_X12_laySpansOf
theorem dX12_span_40 : decode cX12_span 40 = .ok (.invokevirtual 313, 3) := by decide +kernel
theorem dX12_span_43 : decode cX12_span 43 = .ok (.iload_n 3, 1) := by decide +kernel
theorem dX12_span_44 : decode cX12_span 44 = .ok (.ifCond .ne 12, 3) := by decide +kernel
theorem dX12_span_56 : decode cX12_span 56 = .ok (.aload_n 0, 1) := by decide +kernel
theorem dX12_span_57 : decode cX12_span 57 = .ok (.getfield 68, 3) := by decide +kernel
theorem dX12_span_60 : decode cX12_span 60 = .ok (.iload_n 1, 1) := by decide +kernel
theorem dX12_span_61 : decode cX12_span 61 = .ok (.iaload, 1) := by decide +kernel
theorem dX12_span_62 : decode cX12_span 62 = .ok (.ireturn, 1) := by decide +kernel
theorem dX12_span_47 : decode cX12_span 47 = .ok (.aload_n 0, 1) := by decide +kernel
theorem dX12_span_48 : decode cX12_span 48 = .ok (.getfield 65, 3) := by decide +kernel
theorem dX12_span_51 : decode cX12_span 51 = .ok (.iload_n 1, 1) := by decide +kernel
theorem dX12_span_52 : decode cX12_span 52 = .ok (.iaload, 1) := by decide +kernel
theorem dX12_span_53 : decode cX12_span 53 = .ok (.goto 9, 3) := by decide +kernel
/-- HissHornModel.span(III)I of cell 0 -/
def rmX12_span_0 : Room := { frames := 4, cells := 0, slots := 0, locals := 84 }
theorem hX12_span_0_X12 : ∀ w ∈ u_ws RX12 TX12 69, w ∈ wsX12_span := fun w h => (List.mem_cons_of_mem _ (List.mem_append_right _ h))
theorem mX12_span_0_1 : Cond.fieldLink RX12 151 "HissHornModel" "thrown" "I" ∈ wsX12_span := (List.mem_cons_of_mem _ (List.mem_append_left _ (List.mem_append_left _ (List.mem_of_getElem? (i := 0) rfl))))
theorem mX12_span_0_2 : Cond.fieldLink RX12 47 "HissHornModel" "partTold" "[I" ∈ wsX12_span := (List.mem_cons_of_mem _ (List.mem_append_left _ (List.mem_append_left _ (List.mem_of_getElem? (i := 1) rfl))))
theorem mX12_span_0_3 : Cond.fieldLink RX12 68 "HissHornModel" "to" "[I" ∈ wsX12_span := (List.mem_cons_of_mem _ (List.mem_append_left _ (List.mem_append_left _ (List.mem_of_getElem? (i := 3) rfl))))
theorem mX12_span_0_4 : Cond.fieldLink RX12 65 "HissHornModel" "from" "[I" ∈ wsX12_span := (List.mem_cons_of_mem _ (List.mem_append_left _ (List.mem_append_left _ (List.mem_of_getElem? (i := 2) rfl))))
def fX12_span_0 (x1 : Int32) (x2 : Int32) (x3 : Int32) (u : SX) : Option (Int32 × SX) := (lt (sI u 0 0) fun u1 => ((fX12_isPart_0 x1 u1).bind fun q => match q with | (r3, u4) => (if r3 = 0 then (some ((-1), u4)) else (gd (inb x1 12) ((fX12_isKnown_0 (u4.2.1 10 x1.toNatClampNeg) x2 u4).bind fun q => match q with | (r7, u8) => (if r7 = 0 then (some ((-1), u8)) else ((fX12_isIn x3 0 1).bind fun r10 => (if r10 = 0 then (some ((-1), u8)) else ((fX12_laySpansOf_0 x2 u8).bind fun q => match q with | (r13, u14) => (if x3 = 0 then (gd (inb x1 12) (some (u14.2.1 16 x1.toNatClampNeg, u14))) else (gd (inb x1 12) (some (u14.2.1 17 x1.toNatClampNeg, u14)))))))))))))
set_option maxHeartbeats 4000000 in
set_option maxRecDepth 100000 in
theorem wX12_span_0 {p : Program} {l : Launch} {e : Env} {s : State} {m : MethodId} {args : Array Value} {below : List Frame} {meth : Method} {c : Code} {D : va_G} {cy : Nat → ClassId} {ad st : Nat → Nat} (C : Cx RX12 cX12_span 4 (some .int) wsX12_span p s m args meth c) (hK : Kx D [(cy 0, .int), (cy 1, .long), (cy 2, .boolean), (cy 3, .byte), (cy 4, .object "HissHorn$Text")] st s) (hJ : JM ad) (x1 : Int32) (x2 : Int32) (x3 : Int32) {u : SX} {r : Int32} {u' : SX} {H : Heap} {locs : List Loc} {ls : Array Slot} (h : fX12_span_0 x1 x2 x3 u = some (r, u')) (hP : va_P D vwCl (VM cy ad st u) H) (hS : va_S (Ax (AM ad) s.heap.size) s.heap H locs) (hl : lv_has ls 4 [(0, .ref (ad 0)), (1, .int x1), (2, .int x2), (3, .int x3)]) : W p l e rmX12_span_0 s m args below meth c H locs 0 0 (MQ below (Qi D (VM cy ad st) (AM ad) s.heap.size r u') args s 0 0 (Ax (AM ad) s.heap.size)) (F0 m 0 ls []) := by
  unfold fX12_span_0 at h
  refine lv_aload_n C.1 C.2.1 dX12_span_0 rfl (lv_at hl 0 rfl) ?_
  refine lv_iconst (v := 0) C.1 C.2.1 dX12_span_1 (by decide) ?_
  refine pM_0_thrown C hX12_span_0_X12 hK hP hJ hS mX12_span_0_1 dX12_span_2 (fun H locs hP hS => ?_)
  obtain ⟨u1, hu2, h⟩ := lt_some h
  rw [← hu2] at hP
  refine lv_aload_n C.1 C.2.1 dX12_span_5 rfl (lv_at hl 0 rfl) ?_
  refine lv_iload_n C.1 C.2.1 dX12_span_6 rfl (lv_at hl 1 rfl) ?_
  obtain ⟨⟨r3, u4⟩, hc5, h⟩ := bd_some h
  try dsimp only at h
  refine cg_i (As := [.int x1]) (rest := []) C hK hP hS (metX12_isPart_0 l D cy ad st hJ _ x1 hc5) (cwV 1 C.2.2.2.2.2.1 gX12_span_X12_isPart rfl rfl rfl (by decide +kernel) ⟨(Nat.le_of_ble_eq_true rfl), (Nat.le_of_ble_eq_true rfl)⟩) 0 12 rfl rfl rfl hl.1 rfl (Nat.le_of_ble_eq_true rfl) dX12_span_7 ⟨Nat.zero_le _, Nat.zero_le _⟩ (fun H locs hP hS => ?_)
  refine lv_if_eq (tgt := 36) C.1 C.2.1 dX12_span_10 (by decide) (fun c10 => ?_) (fun c10 => ?_)
  · rw [if_pos c10] at h
    refine lv_iconst (v := (-1)) C.1 C.2.1 dX12_span_36 (by decide) ?_
    cases h
    exact rt_i C hP hS dX12_span_37
  · rw [if_neg c10] at h
    refine lv_aload_n C.1 C.2.1 dX12_span_13 rfl (lv_at hl 0 rfl) ?_
    refine lv_aload_n C.1 C.2.1 dX12_span_14 rfl (lv_at hl 0 rfl) ?_
    refine gM_0_partTold C hX12_span_0_X12 hK hP mX12_span_0_2 dX12_span_15 ?_
    refine lv_iload_n C.1 C.2.1 dX12_span_18 rfl (lv_at hl 1 rfl) ?_
    obtain ⟨hg6, h⟩ := gd_some h
    refine lM_10 C hK hP hg6 dX12_span_19 ?_
    refine lv_iload_n C.1 C.2.1 dX12_span_20 rfl (lv_at hl 2 rfl) ?_
    obtain ⟨⟨r7, u8⟩, hc9, h⟩ := bd_some h
    try dsimp only at h
    refine cg_i (As := [.int (u4.2.1 10 x1.toNatClampNeg), .int x2]) (rest := []) C hK hP hS (metX12_isKnown_0 l D cy ad st hJ _ (u4.2.1 10 x1.toNatClampNeg) x2 hc9) (cwV 2 C.2.2.2.2.2.1 gX12_span_X12_isKnown rfl rfl rfl (by decide +kernel) ⟨(Nat.le_of_ble_eq_true rfl), (Nat.le_of_ble_eq_true rfl)⟩) 0 12 rfl rfl rfl hl.1 rfl (Nat.le_of_ble_eq_true rfl) dX12_span_21 ⟨Nat.zero_le _, Nat.zero_le _⟩ (fun H locs hP hS => ?_)
    refine lv_if_eq (tgt := 36) C.1 C.2.1 dX12_span_24 (by decide) (fun c24 => ?_) (fun c24 => ?_)
    · rw [if_pos c24] at h
      refine lv_iconst (v := (-1)) C.1 C.2.1 dX12_span_36 (by decide) ?_
      cases h
      exact rt_i C hP hS dX12_span_37
    · rw [if_neg c24] at h
      refine lv_iload_n C.1 C.2.1 dX12_span_27 rfl (lv_at hl 3 rfl) ?_
      refine lv_iconst (v := 0) C.1 C.2.1 dX12_span_28 (by decide) ?_
      refine lv_iconst (v := 1) C.1 C.2.1 dX12_span_29 (by decide) ?_
      obtain ⟨r10, hc12, h⟩ := bd_some h
      refine cs_i (As := [.int x3, .int 0, .int 1]) (rest := []) C hK hP hS (metX12_isIn l D cy st _ x3 0 1 hc12) (va_cwS 3 C.2.2.2.2.2.1 gX12_span_X12_isIn rfl rfl rfl (by decide +kernel) ⟨(Nat.le_of_ble_eq_true rfl), (Nat.le_of_ble_eq_true rfl)⟩) rfl hl.1 rfl (Nat.le_of_ble_eq_true rfl) dX12_span_30 ⟨Nat.zero_le _, Nat.zero_le _⟩ (fun H locs hP hS => ?_)
      refine lv_if_ne (tgt := 38) C.1 C.2.1 dX12_span_33 (by decide) (fun c33 => ?_) (fun c33 => ?_)
      · rw [if_neg c33] at h
        refine lv_aload_n C.1 C.2.1 dX12_span_38 rfl (lv_at hl 0 rfl) ?_
        refine lv_iload_n C.1 C.2.1 dX12_span_39 rfl (lv_at hl 2 rfl) ?_
        obtain ⟨⟨r13, u14⟩, hc15, h⟩ := bd_some h
        try dsimp only at h
        refine cg_v (As := [.int x2]) (rest := []) C hK hP hS (metX12_laySpansOf_0 l D cy ad st hJ _ x2 hc15) (cwV 1 C.2.2.2.2.2.1 gX12_span_X12_laySpansOf rfl rfl rfl (by decide +kernel) ⟨(Nat.le_of_ble_eq_true rfl), (Nat.le_of_ble_eq_true rfl)⟩) 0 12 rfl rfl rfl hl.1 rfl (Nat.le_of_ble_eq_true rfl) dX12_span_40 ⟨Nat.zero_le _, Nat.zero_le _⟩ (fun H locs hP hS => ?_)
        refine lv_iload_n C.1 C.2.1 dX12_span_43 rfl (lv_at hl 3 rfl) ?_
        refine lv_if_ne (tgt := 56) C.1 C.2.1 dX12_span_44 (by decide) (fun c44 => ?_) (fun c44 => ?_)
        · rw [if_neg c44] at h
          refine lv_aload_n C.1 C.2.1 dX12_span_56 rfl (lv_at hl 0 rfl) ?_
          refine gM_0_to C hX12_span_0_X12 hK hP mX12_span_0_3 dX12_span_57 ?_
          refine lv_iload_n C.1 C.2.1 dX12_span_60 rfl (lv_at hl 1 rfl) ?_
          obtain ⟨hg16, h⟩ := gd_some h
          refine lM_17 C hK hP hg16 dX12_span_61 ?_
          cases h
          exact rt_i C hP hS dX12_span_62
        · rw [if_pos c44] at h
          refine lv_aload_n C.1 C.2.1 dX12_span_47 rfl (lv_at hl 0 rfl) ?_
          refine gM_0_from C hX12_span_0_X12 hK hP mX12_span_0_4 dX12_span_48 ?_
          refine lv_iload_n C.1 C.2.1 dX12_span_51 rfl (lv_at hl 1 rfl) ?_
          obtain ⟨hg17, h⟩ := gd_some h
          refine lM_16 C hK hP hg17 dX12_span_52 ?_
          refine lv_goto (tgt := 62) C.1 C.2.1 dX12_span_53 (by decide) ?_
          cases h
          exact rt_i C hP hS dX12_span_62
      · rw [if_pos c33] at h
        refine lv_iconst (v := (-1)) C.1 C.2.1 dX12_span_36 (by decide) ?_
        cases h
        exact rt_i C hP hS dX12_span_37
theorem metX12_span_0 (l : Launch) (D : va_G) (cy : Nat → ClassId) (ad st : Nat → Nat) (hJ : JM ad) (sz : Nat) (x1 : Int32) (x2 : Int32) (x3 : Int32) {u : SX} {r : Int32} {u' : SX} (h : fX12_span_0 x1 x2 x3 u = some (r, u')) : Met l yX12_span wsX12_span rmX12_span_0 (va_Pc [.ref (ad 0), .int x1, .int x2, .int x3] (Px D [(cy 0, .int), (cy 1, .long), (cy 2, .boolean), (cy 3, .byte), (cy 4, .object "HissHorn$Text")] st (VM cy ad st) sz u)) (Qi D (VM cy ad st) (AM ad) sz r u') 0 0 (Ax (AM ad) sz) := by
  refine Met.ofW (cc := cX12_span) (maxL := 4) (ret := (some .int)) (by decide) rfl ?_
  intro p e s m args below meth c s₁ B hml hv
  obtain ⟨rfl, hsz, hP, hK⟩ := hv
  subst hsz
  have C : Cx RX12 cX12_span 4 (some .int) wsX12_span p s m _ meth c := ⟨B.exec, B.bytes, hml, B.returns, findClass_of_methodNamed B.named, atoms_spec (ws := wsX12_span) B.pre, B.notSynchronized⟩
  have hl := lv_entry ([.ref (ad 0), .int x1, .int x2, .int x3]) (n := 4) (Nat.le_of_ble_eq_true rfl)
  rw [lg_entry_eq]
  exact wX12_span_0 C hK hJ x1 x2 x3 h hP va_S.rf hl

theorem dX12_layWorths_3 : decode cX12_layWorths 3 = .ok (.iload 7, 2) := by decide +kernel
theorem dX12_layWorths_5 : decode cX12_layWorths 5 = .ok (.aload_n 0, 1) := by decide +kernel
theorem dX12_layWorths_6 : decode cX12_layWorths 6 = .ok (.getfield 286, 3) := by decide +kernel
theorem dX12_layWorths_9 : decode cX12_layWorths 9 = .ok (.if_icmp .ge 36, 3) := by decide +kernel
theorem dX12_layWorths_45 : decode cX12_layWorths 45 = .ok (.return_, 1) := by decide +kernel
theorem dX12_layWorths_12 : decode cX12_layWorths 12 = .ok (.aload_n 0, 1) := by decide +kernel
theorem dX12_layWorths_13 : decode cX12_layWorths 13 = .ok (.getfield 71, 3) := by decide +kernel
theorem dX12_layWorths_16 : decode cX12_layWorths 16 = .ok (.iload 7, 2) := by decide +kernel
theorem dX12_layWorths_18 : decode cX12_layWorths 18 = .ok (.aload_n 0, 1) := by decide +kernel
theorem dX12_layWorths_19 : decode cX12_layWorths 19 = .ok (.aload_n 0, 1) := by decide +kernel
theorem dX12_layWorths_20 : decode cX12_layWorths 20 = .ok (.getfield 35, 3) := by decide +kernel
theorem dX12_layWorths_23 : decode cX12_layWorths 23 = .ok (.iload 7, 2) := by decide +kernel
theorem dX12_layWorths_25 : decode cX12_layWorths 25 = .ok (.iaload, 1) := by decide +kernel
theorem dX12_layWorths_26 : decode cX12_layWorths 26 = .ok (.iload_n 1, 1) := by decide +kernel
theorem dX12_layWorths_27 : decode cX12_layWorths 27 = .ok (.iload_n 2, 1) := by decide +kernel
theorem dX12_layWorths_28 : decode cX12_layWorths 28 = .ok (.iload_n 3, 1) := by decide +kernel
theorem dX12_layWorths_29 : decode cX12_layWorths 29 = .ok (.iload 4, 2) := by decide +kernel
theorem dX12_layWorths_31 : decode cX12_layWorths 31 = .ok (.iload 5, 2) := by decide +kernel
theorem dX12_layWorths_33 : decode cX12_layWorths 33 = .ok (.iload 6, 2) := by decide +kernel
set_option maxRecDepth 20000 in
theorem ggX12_layWorths_X12_lawWorth : GoodIn wsX12_layWorths wsX12_lawWorth := goodIn_r _ [8, 9, 10, 11, 12, 7, 13, 14, 15, 16, 17, 18, 19, 20, 21, 22, 23, 24, 25, 26, 27, 28, 29, 30, 31, 32, 33, 34, 35, 36, 37, 38, 39, 40, 41, 42, 43, 44, 45, 46, 47, 48, 49, 50, 51, 52, 53, 54, 55, 56, 57, 58, 59, 60, 61, 62, 63, 64, 65, 66, 67, 68, 69, 70, 71, 72, 73, 74, 75, 76, 77, 78, 79, 80, 81, 82, 83, 84, 85, 86, 87, 88, 89, 90, 91, 92, 93, 94, 95, 96, 97, 98, 99, 100, 101, 102, 103, 104, 105, 106, 107, 108, 109, 110, 111, 112, 113, 114, 115, 116, 117, 118, 119, 120, 121, 122, 123, 124, 125, 126, 127, 128, 129, 130, 131, 132, 133, 134, 135, 136, 137, 138, 139, 140, 141, 142, 143, 144, 145, 146, 147, 148, 149, 150, 151, 152, 153, 154, 155, 156, 157, 158, 159, 160, 161, 162, 163, 164, 165, 166, 167, 168, 169, 170, 171, 172, 173, 174, 175, 176, 177, 178, 179, 180, 181, 182, 183, 184, 185, 186, 187, 188, 189, 190, 191, 192, 193, 194, 195, 196, 197, 198, 199, 200, 201, 202, 203, 204, 205, 206, 207, 208, 209, 210, 211, 212, 213, 214, 215, 216, 217, 218, 219, 220, 221, 222, 223, 224, 225, 226, 227, 228, 229, 230, 231, 232, 233, 234, 235, 236, 237, 238, 239, 240, 241, 242, 243, 244, 245, 246, 247, 248, 249, 250, 251, 252, 253, 254, 255, 256] (by decide +kernel) (by decide +kernel)
set_option maxRecDepth 20000 in
theorem gX12_layWorths_X12_lawWorth : GoodIn wsX12_layWorths (wsV RX12 282 RX12 yX12_lawWorth wsX12_lawWorth) := goodIn_app (goodIn_of _ (by decide +kernel)) ggX12_layWorths_X12_lawWorth
theorem dX12_layWorths_35 : decode cX12_layWorths 35 = .ok (.invokevirtual 282, 3) := by decide +kernel
theorem dX12_layWorths_38 : decode cX12_layWorths 38 = .ok (.iastore, 1) := by decide +kernel
theorem dX12_layWorths_39 : decode cX12_layWorths 39 = .ok (.iinc 7 1, 3) := by decide +kernel
theorem dX12_layWorths_42 : decode cX12_layWorths 42 = .ok (.goto (-39), 3) := by decide +kernel
theorem dX12_layWorths_0 : decode cX12_layWorths 0 = .ok (.iconst 0, 1) := by decide +kernel
theorem dX12_layWorths_1 : decode cX12_layWorths 1 = .ok (.istore 7, 2) := by decide +kernel
/-- HissHornModel.layWorths(IIIIII)V of cell 0 -/
def rmX12_layWorths_0 : Room := { frames := 137, cells := 0, slots := 0, locals := 8404 }
theorem hX12_layWorths_0_X12 : ∀ w ∈ u_ws RX12 TX12 69, w ∈ wsX12_layWorths := fun w h => (List.mem_cons_of_mem _ (List.mem_append_right _ h))
theorem mX12_layWorths_0_1 : Cond.fieldLink RX12 286 "HissHornModel" "parts" "I" ∈ wsX12_layWorths := (List.mem_cons_of_mem _ (List.mem_append_left _ (List.mem_append_left _ (List.mem_of_getElem? (i := 0) rfl))))
theorem mX12_layWorths_0_2 : Cond.fieldLink RX12 71 "HissHornModel" "worths" "[I" ∈ wsX12_layWorths := (List.mem_cons_of_mem _ (List.mem_append_left _ (List.mem_append_left _ (List.mem_of_getElem? (i := 1) rfl))))
theorem mX12_layWorths_0_3 : Cond.fieldLink RX12 35 "HissHornModel" "partLaw" "[I" ∈ wsX12_layWorths := (List.mem_cons_of_mem _ (List.mem_append_left _ (List.mem_append_left _ (List.mem_of_getElem? (i := 2) rfl))))
def LX12_layWorths_0_3  : Nat → Int32 → Int32 → Int32 → Int32 → Int32 → Int32 → Int32 → SX → Option (Int32 × SX)
  | 0, _, _, _, _, _, _, _, _ => none
  | n + 1, z1, z2, z3, z4, z5, z6, z7, u => (if (u.1 12) ≤ z7 then (some (0, u)) else (gd (inb z7 12) ((fX12_lawWorth_0 (u.2.1 6 z7.toNatClampNeg) z1 z2 z3 z4 z5 z6 u).bind fun q => match q with | (r2, u3) => (gd (inb z7 12) (lt (sA u3 18 (upd (u3.2.1 18) z7.toNatClampNeg r2)) fun u6 => ((LX12_layWorths_0_3 n) z1 z2 z3 z4 z5 z6 (z7 + 1) u6))))))
def fX12_layWorths_0 (x1 : Int32) (x2 : Int32) (x3 : Int32) (x4 : Int32) (x5 : Int32) (x6 : Int32) (u : SX) : Option (Int32 × SX) := (LX12_layWorths_0_3  5000 x1 x2 x3 x4 x5 x6 0 u)
set_option maxHeartbeats 4000000 in
set_option maxRecDepth 100000 in
theorem wLX12_layWorths_0_3 {p : Program} {l : Launch} {e : Env} {s : State} {m : MethodId} {args : Array Value} {below : List Frame} {meth : Method} {c : Code} {D : va_G} {cy : Nat → ClassId} {ad st : Nat → Nat} (C : Cx RX12 cX12_layWorths 8 none wsX12_layWorths p s m args meth c) (hK : Kx D [(cy 0, .int), (cy 1, .long), (cy 2, .boolean), (cy 3, .byte), (cy 4, .object "HissHorn$Text")] st s) (hJ : JM ad) {r : Int32} {u' : SX}   : ∀ (n : Nat) (z1 : Int32) (z2 : Int32) (z3 : Int32) (z4 : Int32) (z5 : Int32) (z6 : Int32) (z7 : Int32) (u : SX) (H : Heap) (locs : List Loc) (ls : Array Slot), LX12_layWorths_0_3  n z1 z2 z3 z4 z5 z6 z7 u = some (r, u') → va_P D vwCl (VM cy ad st u) H → va_S (Ax (AM ad) s.heap.size) s.heap H locs → lv_has ls 8 [(0, .ref (ad 0)), (1, .int z1), (2, .int z2), (3, .int z3), (4, .int z4), (5, .int z5), (6, .int z6), (7, .int z7)] → W p l e rmX12_layWorths_0 s m args below meth c H locs 0 0 (MQ below (Qv D (VM cy ad st) (AM ad) s.heap.size r u') args s 0 0 (Ax (AM ad) s.heap.size)) (F0 m 3 ls []) := by
  intro n
  induction n with
  | zero =>
    intro z1 z2 z3 z4 z5 z6 z7 u H locs ls h
    exact absurd h (by intro q; cases q)
  | succ n ih =>
    intro z1 z2 z3 z4 z5 z6 z7 u H locs ls h hP hS hl
    rw [LX12_layWorths_0_3] at h
    refine lv_iload C.1 C.2.1 dX12_layWorths_3 (lv_at hl 7 rfl) ?_
    refine lv_aload_n C.1 C.2.1 dX12_layWorths_5 rfl (lv_at hl 0 rfl) ?_
    refine gM_0_parts C hX12_layWorths_0_X12 hK hP mX12_layWorths_0_1 dX12_layWorths_6 ?_
    refine lv_icmp_ge (tgt := 45) C.1 C.2.1 dX12_layWorths_9 (by decide) (fun c9 => ?_) (fun c9 => ?_)
    · rw [if_pos c9] at h
      cases h
      exact rt_v C hP hS dX12_layWorths_45
    · rw [if_neg c9] at h
      refine lv_aload_n C.1 C.2.1 dX12_layWorths_12 rfl (lv_at hl 0 rfl) ?_
      refine gM_0_worths C hX12_layWorths_0_X12 hK hP mX12_layWorths_0_2 dX12_layWorths_13 ?_
      refine lv_iload C.1 C.2.1 dX12_layWorths_16 (lv_at hl 7 rfl) ?_
      refine lv_aload_n C.1 C.2.1 dX12_layWorths_18 rfl (lv_at hl 0 rfl) ?_
      refine lv_aload_n C.1 C.2.1 dX12_layWorths_19 rfl (lv_at hl 0 rfl) ?_
      refine gM_0_partLaw C hX12_layWorths_0_X12 hK hP mX12_layWorths_0_3 dX12_layWorths_20 ?_
      refine lv_iload C.1 C.2.1 dX12_layWorths_23 (lv_at hl 7 rfl) ?_
      obtain ⟨hg1, h⟩ := gd_some h
      refine lM_6 C hK hP hg1 dX12_layWorths_25 ?_
      refine lv_iload_n C.1 C.2.1 dX12_layWorths_26 rfl (lv_at hl 1 rfl) ?_
      refine lv_iload_n C.1 C.2.1 dX12_layWorths_27 rfl (lv_at hl 2 rfl) ?_
      refine lv_iload_n C.1 C.2.1 dX12_layWorths_28 rfl (lv_at hl 3 rfl) ?_
      refine lv_iload C.1 C.2.1 dX12_layWorths_29 (lv_at hl 4 rfl) ?_
      refine lv_iload C.1 C.2.1 dX12_layWorths_31 (lv_at hl 5 rfl) ?_
      refine lv_iload C.1 C.2.1 dX12_layWorths_33 (lv_at hl 6 rfl) ?_
      obtain ⟨⟨r2, u3⟩, hc4, h⟩ := bd_some h
      try dsimp only at h
      refine cg_i (As := [.int (u.2.1 6 z7.toNatClampNeg), .int z1, .int z2, .int z3, .int z4, .int z5, .int z6]) (rest := [.int z7, .ref (ad 18)]) C hK hP hS (metX12_lawWorth_0 l D cy ad st hJ _ (u.2.1 6 z7.toNatClampNeg) z1 z2 z3 z4 z5 z6 hc4) (cwV 7 C.2.2.2.2.2.1 gX12_layWorths_X12_lawWorth rfl rfl rfl (by decide +kernel) ⟨(Nat.le_of_ble_eq_true rfl), (Nat.le_of_ble_eq_true rfl)⟩) 0 12 rfl rfl rfl hl.1 rfl (Nat.le_of_ble_eq_true rfl) dX12_layWorths_35 ⟨Nat.zero_le _, Nat.zero_le _⟩ (fun H locs hP hS => ?_)
      obtain ⟨hg5, h⟩ := gd_some h
      refine tM_18 C hK hP hJ hS hg5 dX12_layWorths_38 (fun H locs hP hS => ?_)
      obtain ⟨u6, hu7, h⟩ := lt_some h
      rw [← hu7] at hP
      refine lv_iinc (v := z7 + 1) (lv' := [(7, .int (z7 + 1)), (0, .ref (ad 0)), (1, .int z1), (2, .int z2), (3, .int z3), (4, .int z4), (5, .int z5), (6, .int z6)]) C.1 C.2.1 dX12_layWorths_39 hl (k := 7) rfl rfl (by decide) rfl (fun ls hl => ?_)
      replace hl := lv_sub (l' := [(0, .ref (ad 0)), (1, .int z1), (2, .int z2), (3, .int z3), (4, .int z4), (5, .int z5), (6, .int z6), (7, .int (z7 + 1))]) hl [1, 2, 3, 4, 5, 6, 7, 0] rfl
      refine lv_goto (tgt := 3) C.1 C.2.1 dX12_layWorths_42 (by decide) ?_
      exact ih _ _ _ _ _ _ _ _ _ _ _ h hP hS hl
set_option maxHeartbeats 4000000 in
set_option maxRecDepth 100000 in
theorem wX12_layWorths_0 {p : Program} {l : Launch} {e : Env} {s : State} {m : MethodId} {args : Array Value} {below : List Frame} {meth : Method} {c : Code} {D : va_G} {cy : Nat → ClassId} {ad st : Nat → Nat} (C : Cx RX12 cX12_layWorths 8 none wsX12_layWorths p s m args meth c) (hK : Kx D [(cy 0, .int), (cy 1, .long), (cy 2, .boolean), (cy 3, .byte), (cy 4, .object "HissHorn$Text")] st s) (hJ : JM ad) (x1 : Int32) (x2 : Int32) (x3 : Int32) (x4 : Int32) (x5 : Int32) (x6 : Int32) {u : SX} {r : Int32} {u' : SX} {H : Heap} {locs : List Loc} {ls : Array Slot} (h : fX12_layWorths_0 x1 x2 x3 x4 x5 x6 u = some (r, u')) (hP : va_P D vwCl (VM cy ad st u) H) (hS : va_S (Ax (AM ad) s.heap.size) s.heap H locs) (hl : lv_has ls 8 [(0, .ref (ad 0)), (1, .int x1), (2, .int x2), (3, .int x3), (4, .int x4), (5, .int x5), (6, .int x6)]) : W p l e rmX12_layWorths_0 s m args below meth c H locs 0 0 (MQ below (Qv D (VM cy ad st) (AM ad) s.heap.size r u') args s 0 0 (Ax (AM ad) s.heap.size)) (F0 m 0 ls []) := by
  unfold fX12_layWorths_0 at h
  refine lv_iconst (v := 0) C.1 C.2.1 dX12_layWorths_0 (by decide) ?_
  refine lv_istore (lv' := [(7, .int 0), (0, .ref (ad 0)), (1, .int x1), (2, .int x2), (3, .int x3), (4, .int x4), (5, .int x5), (6, .int x6)]) C.1 C.2.1 dX12_layWorths_1 hl (by decide) rfl (fun ls hl => ?_)
  replace hl := lv_sub (l' := [(0, .ref (ad 0)), (1, .int x1), (2, .int x2), (3, .int x3), (4, .int x4), (5, .int x5), (6, .int x6), (7, .int 0)]) hl [1, 2, 3, 4, 5, 6, 7, 0] rfl
  exact wLX12_layWorths_0_3 C hK hJ  5000 _ _ _ _ _ _ _ _ _ _ _ h hP hS hl
theorem metX12_layWorths_0 (l : Launch) (D : va_G) (cy : Nat → ClassId) (ad st : Nat → Nat) (hJ : JM ad) (sz : Nat) (x1 : Int32) (x2 : Int32) (x3 : Int32) (x4 : Int32) (x5 : Int32) (x6 : Int32) {u : SX} {r : Int32} {u' : SX} (h : fX12_layWorths_0 x1 x2 x3 x4 x5 x6 u = some (r, u')) : Met l yX12_layWorths wsX12_layWorths rmX12_layWorths_0 (va_Pc [.ref (ad 0), .int x1, .int x2, .int x3, .int x4, .int x5, .int x6] (Px D [(cy 0, .int), (cy 1, .long), (cy 2, .boolean), (cy 3, .byte), (cy 4, .object "HissHorn$Text")] st (VM cy ad st) sz u)) (Qv D (VM cy ad st) (AM ad) sz r u') 0 0 (Ax (AM ad) sz) := by
  refine Met.ofW (cc := cX12_layWorths) (maxL := 8) (ret := none) (by decide) rfl ?_
  intro p e s m args below meth c s₁ B hml hv
  obtain ⟨rfl, hsz, hP, hK⟩ := hv
  subst hsz
  have C : Cx RX12 cX12_layWorths 8 none wsX12_layWorths p s m _ meth c := ⟨B.exec, B.bytes, hml, B.returns, findClass_of_methodNamed B.named, atoms_spec (ws := wsX12_layWorths) B.pre, B.notSynchronized⟩
  have hl := lv_entry ([.ref (ad 0), .int x1, .int x2, .int x3, .int x4, .int x5, .int x6]) (n := 8) (Nat.le_of_ble_eq_true rfl)
  rw [lg_entry_eq]
  exact wX12_layWorths_0 C hK hJ x1 x2 x3 x4 x5 x6 h hP va_S.rf hl

theorem dX12_shines_0 : decode cX12_shines 0 = .ok (.iload_n 0, 1) := by decide +kernel
theorem dX12_shines_1 : decode cX12_shines 1 = .ok (.iload_n 1, 1) := by decide +kernel
theorem dX12_shines_2 : decode cX12_shines 2 = .ok (.imul, 1) := by decide +kernel
theorem dX12_shines_3 : decode cX12_shines 3 = .ok (.bipush 100, 2) := by decide +kernel
theorem dX12_shines_5 : decode cX12_shines 5 = .ok (.idiv, 1) := by decide +kernel
theorem dX12_shines_6 : decode cX12_shines 6 = .ok (.ireturn, 1) := by decide +kernel
/-- HissHornModel.shines(II)I -/
def rmX12_shines : Room := { frames := 0, cells := 0, slots := 0, locals := 0 }
def fX12_shines (x0 : Int32) (x1 : Int32) : Option Int32 := (gd (nz 100) (some ((x0 * x1) / 100)))
set_option maxHeartbeats 4000000 in
set_option maxRecDepth 100000 in
theorem wX12_shines {p : Program} {l : Launch} {e : Env} {s : State} {m : MethodId} {args : Array Value} {below : List Frame} {meth : Method} {c : Code} {D : va_G} {cy : Nat → ClassId} {st : Nat → Nat} (C : Cx RX12 cX12_shines 2 (some .int) wsX12_shines p s m args meth c) (hK : Kx D [(cy 0, .int), (cy 1, .long), (cy 2, .boolean), (cy 3, .byte), (cy 4, .object "HissHorn$Text")] st s) (x0 : Int32) (x1 : Int32) {r : Int32} {H : Heap} {locs : List Loc} {ls : Array Slot} (h : fX12_shines x0 x1 = some r) (hP : va_P D vwCl (V0 u00) H) (hS : va_S (Ax (A0) s.heap.size) s.heap H locs) (hl : lv_has ls 2 [(0, .int x0), (1, .int x1)]) : W p l e rmX12_shines s m args below meth c H locs 0 0 (MQ below (Qi D (V0) (A0) s.heap.size r u00) args s 0 0 (Ax (A0) s.heap.size)) (F0 m 0 ls []) := by
  unfold fX12_shines at h
  refine lv_iload_n C.1 C.2.1 dX12_shines_0 rfl (lv_at hl 0 rfl) ?_
  refine lv_iload_n C.1 C.2.1 dX12_shines_1 rfl (lv_at hl 1 rfl) ?_
  refine lv_imul C.1 C.2.1 dX12_shines_2 ?_
  refine lv_bipush (v := 100) C.1 C.2.1 dX12_shines_3 (by decide) ?_
  obtain ⟨hg1, h⟩ := gd_some h
  refine lv_idiv C.1 C.2.1 dX12_shines_5 (nz_n hg1) ?_
  cases h
  exact rt_i C hP hS dX12_shines_6
theorem metX12_shines (l : Launch) (D : va_G) (cy : Nat → ClassId) (st : Nat → Nat) (sz : Nat) (x0 : Int32) (x1 : Int32) {r : Int32} (h : fX12_shines x0 x1 = some r) : Met l yX12_shines wsX12_shines rmX12_shines (va_Pc [.int x0, .int x1] (Px D [(cy 0, .int), (cy 1, .long), (cy 2, .boolean), (cy 3, .byte), (cy 4, .object "HissHorn$Text")] st V0 sz u00)) (Qi D V0 A0 sz r u00) 0 0 (Ax A0 sz) := by
  refine Met.ofW (cc := cX12_shines) (maxL := 2) (ret := (some .int)) (by decide) rfl ?_
  intro p e s m args below meth c s₁ B hml hv
  obtain ⟨rfl, hsz, hP, hK⟩ := hv
  subst hsz
  have C : Cx RX12 cX12_shines 2 (some .int) wsX12_shines p s m _ meth c := ⟨B.exec, B.bytes, hml, B.returns, findClass_of_methodNamed B.named, atoms_spec (ws := wsX12_shines) B.pre, B.notSynchronized⟩
  have hl := lv_entry ([.int x0, .int x1]) (n := 2) (Nat.le_of_ble_eq_true rfl)
  rw [lg_entry_eq]
  exact wX12_shines C hK x0 x1 h hP va_S.rf hl

theorem dX12_trueSum_22 : decode cX12_trueSum 22 = .ok (.iload 8, 2) := by decide +kernel
theorem dX12_trueSum_24 : decode cX12_trueSum 24 = .ok (.aload_n 0, 1) := by decide +kernel
theorem dX12_trueSum_25 : decode cX12_trueSum 25 = .ok (.getfield 286, 3) := by decide +kernel
theorem dX12_trueSum_28 : decode cX12_trueSum 28 = .ok (.if_icmp .ge 31, 3) := by decide +kernel
theorem dX12_trueSum_59 : decode cX12_trueSum 59 = .ok (.iload 7, 2) := by decide +kernel
theorem dX12_trueSum_61 : decode cX12_trueSum 61 = .ok (.ireturn, 1) := by decide +kernel
theorem dX12_trueSum_31 : decode cX12_trueSum 31 = .ok (.iload 7, 2) := by decide +kernel
theorem dX12_trueSum_33 : decode cX12_trueSum 33 = .ok (.aload_n 0, 1) := by decide +kernel
theorem dX12_trueSum_34 : decode cX12_trueSum 34 = .ok (.getfield 44, 3) := by decide +kernel
theorem dX12_trueSum_37 : decode cX12_trueSum 37 = .ok (.iload 8, 2) := by decide +kernel
theorem dX12_trueSum_39 : decode cX12_trueSum 39 = .ok (.iaload, 1) := by decide +kernel
theorem dX12_trueSum_40 : decode cX12_trueSum 40 = .ok (.aload_n 0, 1) := by decide +kernel
theorem dX12_trueSum_41 : decode cX12_trueSum 41 = .ok (.getfield 71, 3) := by decide +kernel
theorem dX12_trueSum_44 : decode cX12_trueSum 44 = .ok (.iload 8, 2) := by decide +kernel
theorem dX12_trueSum_46 : decode cX12_trueSum 46 = .ok (.iaload, 1) := by decide +kernel
set_option maxRecDepth 20000 in
theorem ggX12_trueSum_X12_shines : GoodIn wsX12_trueSum wsX12_shines := goodIn_r _ [198] (by decide +kernel) (by decide +kernel)
set_option maxRecDepth 20000 in
theorem gX12_trueSum_X12_shines : GoodIn wsX12_trueSum (va_wsS RX12 323 yX12_shines wsX12_shines) := goodIn_app (goodIn_of _ (by decide +kernel)) ggX12_trueSum_X12_shines
theorem dX12_trueSum_47 : decode cX12_trueSum 47 = .ok (.invokestatic 323, 3) := by decide +kernel
theorem dX12_trueSum_50 : decode cX12_trueSum 50 = .ok (.iadd, 1) := by decide +kernel
theorem dX12_trueSum_51 : decode cX12_trueSum 51 = .ok (.istore 7, 2) := by decide +kernel
theorem dX12_trueSum_53 : decode cX12_trueSum 53 = .ok (.iinc 8 1, 3) := by decide +kernel
theorem dX12_trueSum_56 : decode cX12_trueSum 56 = .ok (.goto (-34), 3) := by decide +kernel
theorem dX12_trueSum_0 : decode cX12_trueSum 0 = .ok (.aload_n 0, 1) := by decide +kernel
theorem dX12_trueSum_1 : decode cX12_trueSum 1 = .ok (.iload_n 2, 1) := by decide +kernel
theorem dX12_trueSum_2 : decode cX12_trueSum 2 = .ok (.iload_n 3, 1) := by decide +kernel
theorem dX12_trueSum_3 : decode cX12_trueSum 3 = .ok (.iload 4, 2) := by decide +kernel
theorem dX12_trueSum_5 : decode cX12_trueSum 5 = .ok (.iload_n 1, 1) := by decide +kernel
set_option maxRecDepth 20000 in
theorem ggX12_trueSum_X12_season : GoodIn wsX12_trueSum wsX12_season := goodIn_r _ [7] (by decide +kernel) (by decide +kernel)
set_option maxRecDepth 20000 in
theorem gX12_trueSum_X12_season : GoodIn wsX12_trueSum (va_wsS RX12 316 yX12_season wsX12_season) := goodIn_app (goodIn_of _ (by decide +kernel)) ggX12_trueSum_X12_season
theorem dX12_trueSum_6 : decode cX12_trueSum 6 = .ok (.invokestatic 316, 3) := by decide +kernel
theorem dX12_trueSum_9 : decode cX12_trueSum 9 = .ok (.iload 5, 2) := by decide +kernel
theorem dX12_trueSum_11 : decode cX12_trueSum 11 = .ok (.iload 6, 2) := by decide +kernel
set_option maxRecDepth 20000 in
theorem ggX12_trueSum_X12_layWorths : GoodIn wsX12_trueSum wsX12_layWorths := goodIn_r _ [11, 1, 3, 12, 13, 14, 15, 6, 16, 17, 18, 19, 20, 21, 22, 23, 24, 25, 26, 27, 28, 29, 30, 31, 32, 33, 34, 35, 36, 37, 38, 39, 40, 41, 42, 43, 44, 45, 46, 47, 48, 49, 50, 51, 52, 53, 54, 55, 56, 57, 58, 59, 60, 61, 62, 63, 64, 65, 66, 67, 68, 69, 70, 71, 72, 73, 74, 75, 76, 77, 78, 79, 80, 81, 82, 83, 84, 85, 86, 87, 88, 89, 90, 91, 92, 93, 94, 95, 96, 97, 98, 99, 100, 101, 102, 103, 104, 105, 106, 107, 108, 109, 110, 111, 112, 113, 114, 115, 116, 117, 118, 119, 120, 121, 122, 123, 124, 125, 126, 127, 128, 129, 130, 131, 132, 133, 134, 135, 136, 137, 138, 139, 140, 141, 142, 143, 144, 145, 146, 147, 148, 149, 150, 151, 152, 153, 154, 155, 156, 157, 158, 159, 160, 161, 162, 163, 164, 165, 166, 167, 168, 169, 170, 171, 172, 173, 174, 175, 176, 177, 178, 179, 180, 181, 182, 183, 184, 185, 186, 187, 188, 189, 190, 191, 192, 193, 194, 195, 199, 200, 201, 202, 203, 204, 205, 206, 207, 208, 209, 210, 211, 212, 213, 214, 215, 216, 217, 218, 219, 220, 221, 222, 223, 224, 225, 226, 227, 228, 229, 230, 231, 232, 233, 234, 235, 236, 237, 238, 239, 240, 241, 242, 243, 244, 245, 246, 247, 248, 249, 250, 251, 252, 253, 254, 255, 256, 257, 258, 259, 260, 261, 262, 263, 264, 265, 266, 267] (by decide +kernel) (by decide +kernel)
set_option maxRecDepth 20000 in
theorem gX12_trueSum_X12_layWorths : GoodIn wsX12_trueSum (wsV RX12 319 RX12 yX12_layWorths wsX12_layWorths) := goodIn_app (goodIn_of _ (by decide +kernel)) ggX12_trueSum_X12_layWorths
theorem dX12_trueSum_13 : decode cX12_trueSum 13 = .ok (.invokevirtual 319, 3) := by decide +kernel
theorem dX12_trueSum_16 : decode cX12_trueSum 16 = .ok (.iconst 0, 1) := by decide +kernel
theorem dX12_trueSum_17 : decode cX12_trueSum 17 = .ok (.istore 7, 2) := by decide +kernel
theorem dX12_trueSum_19 : decode cX12_trueSum 19 = .ok (.iconst 0, 1) := by decide +kernel
theorem dX12_trueSum_20 : decode cX12_trueSum 20 = .ok (.istore 8, 2) := by decide +kernel
/-- HissHornModel.trueSum(IIIIII)I of cell 0 -/
def rmX12_trueSum_0 : Room := { frames := 138, cells := 0, slots := 0, locals := 8431 }
theorem hX12_trueSum_0_X12 : ∀ w ∈ u_ws RX12 TX12 69, w ∈ wsX12_trueSum := fun w h => (List.mem_cons_of_mem _ (List.mem_append_right _ h))
theorem mX12_trueSum_0_1 : Cond.fieldLink RX12 286 "HissHornModel" "parts" "I" ∈ wsX12_trueSum := (List.mem_cons_of_mem _ (List.mem_append_left _ (List.mem_append_left _ (List.mem_of_getElem? (i := 0) rfl))))
theorem mX12_trueSum_0_2 : Cond.fieldLink RX12 44 "HissHornModel" "truly" "[I" ∈ wsX12_trueSum := (List.mem_cons_of_mem _ (List.mem_append_left _ (List.mem_append_left _ (List.mem_of_getElem? (i := 1) rfl))))
theorem mX12_trueSum_0_3 : Cond.fieldLink RX12 71 "HissHornModel" "worths" "[I" ∈ wsX12_trueSum := (List.mem_cons_of_mem _ (List.mem_append_left _ (List.mem_append_left _ (List.mem_of_getElem? (i := 2) rfl))))
def LX12_trueSum_0_22  : Nat → Int32 → Int32 → SX → Option (Int32 × SX)
  | 0, _, _, _ => none
  | n + 1, z7, z8, u => (if (u.1 12) ≤ z8 then (some (z7, u)) else (gd (inb z8 12) (gd (inb z8 12) ((fX12_shines (u.2.1 9 z8.toNatClampNeg) (u.2.1 18 z8.toNatClampNeg)).bind fun r9 => (lt (z7 + r9) fun v12 => ((LX12_trueSum_0_22 n) v12 (z8 + 1) u))))))
def fX12_trueSum_0 (x1 : Int32) (x2 : Int32) (x3 : Int32) (x4 : Int32) (x5 : Int32) (x6 : Int32) (u : SX) : Option (Int32 × SX) := ((fX12_season x1).bind fun r1 => ((fX12_layWorths_0 x2 x3 x4 r1 x5 x6 u).bind fun q => match q with | (r4, u5) => (LX12_trueSum_0_22  5000 0 0 u5)))
set_option maxHeartbeats 4000000 in
set_option maxRecDepth 100000 in
theorem wLX12_trueSum_0_22 {p : Program} {l : Launch} {e : Env} {s : State} {m : MethodId} {args : Array Value} {below : List Frame} {meth : Method} {c : Code} {D : va_G} {cy : Nat → ClassId} {ad st : Nat → Nat} (C : Cx RX12 cX12_trueSum 9 (some .int) wsX12_trueSum p s m args meth c) (hK : Kx D [(cy 0, .int), (cy 1, .long), (cy 2, .boolean), (cy 3, .byte), (cy 4, .object "HissHorn$Text")] st s) (hJ : JM ad) {r : Int32} {u' : SX}   : ∀ (n : Nat) (z7 : Int32) (z8 : Int32) (u : SX) (H : Heap) (locs : List Loc) (ls : Array Slot), LX12_trueSum_0_22  n z7 z8 u = some (r, u') → va_P D vwCl (VM cy ad st u) H → va_S (Ax (AM ad) s.heap.size) s.heap H locs → lv_has ls 9 [(0, .ref (ad 0)), (7, .int z7), (8, .int z8)] → W p l e rmX12_trueSum_0 s m args below meth c H locs 0 0 (MQ below (Qi D (VM cy ad st) (AM ad) s.heap.size r u') args s 0 0 (Ax (AM ad) s.heap.size)) (F0 m 22 ls []) := by
  intro n
  induction n with
  | zero =>
    intro z7 z8 u H locs ls h
    exact absurd h (by intro q; cases q)
  | succ n ih =>
    intro z7 z8 u H locs ls h hP hS hl
    rw [LX12_trueSum_0_22] at h
    refine lv_iload C.1 C.2.1 dX12_trueSum_22 (lv_at hl 2 rfl) ?_
    refine lv_aload_n C.1 C.2.1 dX12_trueSum_24 rfl (lv_at hl 0 rfl) ?_
    refine gM_0_parts C hX12_trueSum_0_X12 hK hP mX12_trueSum_0_1 dX12_trueSum_25 ?_
    refine lv_icmp_ge (tgt := 59) C.1 C.2.1 dX12_trueSum_28 (by decide) (fun c28 => ?_) (fun c28 => ?_)
    · rw [if_pos c28] at h
      refine lv_iload C.1 C.2.1 dX12_trueSum_59 (lv_at hl 1 rfl) ?_
      cases h
      exact rt_i C hP hS dX12_trueSum_61
    · rw [if_neg c28] at h
      refine lv_iload C.1 C.2.1 dX12_trueSum_31 (lv_at hl 1 rfl) ?_
      refine lv_aload_n C.1 C.2.1 dX12_trueSum_33 rfl (lv_at hl 0 rfl) ?_
      refine gM_0_truly C hX12_trueSum_0_X12 hK hP mX12_trueSum_0_2 dX12_trueSum_34 ?_
      refine lv_iload C.1 C.2.1 dX12_trueSum_37 (lv_at hl 2 rfl) ?_
      obtain ⟨hg7, h⟩ := gd_some h
      refine lM_9 C hK hP hg7 dX12_trueSum_39 ?_
      refine lv_aload_n C.1 C.2.1 dX12_trueSum_40 rfl (lv_at hl 0 rfl) ?_
      refine gM_0_worths C hX12_trueSum_0_X12 hK hP mX12_trueSum_0_3 dX12_trueSum_41 ?_
      refine lv_iload C.1 C.2.1 dX12_trueSum_44 (lv_at hl 2 rfl) ?_
      obtain ⟨hg8, h⟩ := gd_some h
      refine lM_18 C hK hP hg8 dX12_trueSum_46 ?_
      obtain ⟨r9, hc11, h⟩ := bd_some h
      refine cs_i (As := [.int (u.2.1 9 z8.toNatClampNeg), .int (u.2.1 18 z8.toNatClampNeg)]) (rest := [.int z7]) C hK hP hS (metX12_shines l D cy st _ (u.2.1 9 z8.toNatClampNeg) (u.2.1 18 z8.toNatClampNeg) hc11) (va_cwS 2 C.2.2.2.2.2.1 gX12_trueSum_X12_shines rfl rfl rfl (by decide +kernel) ⟨(Nat.le_of_ble_eq_true rfl), (Nat.le_of_ble_eq_true rfl)⟩) rfl hl.1 rfl (Nat.le_of_ble_eq_true rfl) dX12_trueSum_47 ⟨Nat.zero_le _, Nat.zero_le _⟩ (fun H locs hP hS => ?_)
      refine lv_iadd C.1 C.2.1 dX12_trueSum_50 ?_
      refine lv_topi (fun v12 hv13 => ?_)
      replace h := lt_e hv13 h
      try dsimp only at h
      refine lv_istore (lv' := [(7, .int v12), (0, .ref (ad 0)), (8, .int z8)]) C.1 C.2.1 dX12_trueSum_51 hl (by decide) rfl (fun ls hl => ?_)
      replace hl := lv_sub (l' := [(0, .ref (ad 0)), (7, .int v12), (8, .int z8)]) hl [1, 0, 2] rfl
      refine lv_iinc (v := z8 + 1) (lv' := [(8, .int (z8 + 1)), (0, .ref (ad 0)), (7, .int v12)]) C.1 C.2.1 dX12_trueSum_53 hl (k := 2) rfl rfl (by decide) rfl (fun ls hl => ?_)
      replace hl := lv_sub (l' := [(0, .ref (ad 0)), (7, .int v12), (8, .int (z8 + 1))]) hl [1, 2, 0] rfl
      refine lv_goto (tgt := 22) C.1 C.2.1 dX12_trueSum_56 (by decide) ?_
      exact ih _ _ _ _ _ _ h hP hS hl
set_option maxHeartbeats 4000000 in
set_option maxRecDepth 100000 in
theorem wX12_trueSum_0 {p : Program} {l : Launch} {e : Env} {s : State} {m : MethodId} {args : Array Value} {below : List Frame} {meth : Method} {c : Code} {D : va_G} {cy : Nat → ClassId} {ad st : Nat → Nat} (C : Cx RX12 cX12_trueSum 9 (some .int) wsX12_trueSum p s m args meth c) (hK : Kx D [(cy 0, .int), (cy 1, .long), (cy 2, .boolean), (cy 3, .byte), (cy 4, .object "HissHorn$Text")] st s) (hJ : JM ad) (x1 : Int32) (x2 : Int32) (x3 : Int32) (x4 : Int32) (x5 : Int32) (x6 : Int32) {u : SX} {r : Int32} {u' : SX} {H : Heap} {locs : List Loc} {ls : Array Slot} (h : fX12_trueSum_0 x1 x2 x3 x4 x5 x6 u = some (r, u')) (hP : va_P D vwCl (VM cy ad st u) H) (hS : va_S (Ax (AM ad) s.heap.size) s.heap H locs) (hl : lv_has ls 9 [(0, .ref (ad 0)), (1, .int x1), (2, .int x2), (3, .int x3), (4, .int x4), (5, .int x5), (6, .int x6)]) : W p l e rmX12_trueSum_0 s m args below meth c H locs 0 0 (MQ below (Qi D (VM cy ad st) (AM ad) s.heap.size r u') args s 0 0 (Ax (AM ad) s.heap.size)) (F0 m 0 ls []) := by
  unfold fX12_trueSum_0 at h
  refine lv_aload_n C.1 C.2.1 dX12_trueSum_0 rfl (lv_at hl 0 rfl) ?_
  refine lv_iload_n C.1 C.2.1 dX12_trueSum_1 rfl (lv_at hl 2 rfl) ?_
  refine lv_iload_n C.1 C.2.1 dX12_trueSum_2 rfl (lv_at hl 3 rfl) ?_
  refine lv_iload C.1 C.2.1 dX12_trueSum_3 (lv_at hl 4 rfl) ?_
  refine lv_iload_n C.1 C.2.1 dX12_trueSum_5 rfl (lv_at hl 1 rfl) ?_
  obtain ⟨r1, hc3, h⟩ := bd_some h
  refine cs_i (As := [.int x1]) (rest := [.int x4, .int x3, .int x2, .ref (ad 0)]) C hK hP hS (metX12_season l D cy st _ x1 hc3) (va_cwS 1 C.2.2.2.2.2.1 gX12_trueSum_X12_season rfl rfl rfl (by decide +kernel) ⟨(Nat.le_of_ble_eq_true rfl), (Nat.le_of_ble_eq_true rfl)⟩) rfl hl.1 rfl (Nat.le_of_ble_eq_true rfl) dX12_trueSum_6 ⟨Nat.zero_le _, Nat.zero_le _⟩ (fun H locs hP hS => ?_)
  refine lv_iload C.1 C.2.1 dX12_trueSum_9 (lv_at hl 5 rfl) ?_
  refine lv_iload C.1 C.2.1 dX12_trueSum_11 (lv_at hl 6 rfl) ?_
  obtain ⟨⟨r4, u5⟩, hc6, h⟩ := bd_some h
  try dsimp only at h
  refine cg_v (As := [.int x2, .int x3, .int x4, .int r1, .int x5, .int x6]) (rest := []) C hK hP hS (metX12_layWorths_0 l D cy ad st hJ _ x2 x3 x4 r1 x5 x6 hc6) (cwV 6 C.2.2.2.2.2.1 gX12_trueSum_X12_layWorths rfl rfl rfl (by decide +kernel) ⟨(Nat.le_of_ble_eq_true rfl), (Nat.le_of_ble_eq_true rfl)⟩) 0 12 rfl rfl rfl hl.1 rfl (Nat.le_of_ble_eq_true rfl) dX12_trueSum_13 ⟨Nat.zero_le _, Nat.zero_le _⟩ (fun H locs hP hS => ?_)
  refine lv_iconst (v := 0) C.1 C.2.1 dX12_trueSum_16 (by decide) ?_
  refine lv_istore (lv' := [(7, .int 0), (0, .ref (ad 0)), (1, .int x1), (2, .int x2), (3, .int x3), (4, .int x4), (5, .int x5), (6, .int x6)]) C.1 C.2.1 dX12_trueSum_17 hl (by decide) rfl (fun ls hl => ?_)
  replace hl := lv_sub (l' := [(0, .ref (ad 0)), (1, .int x1), (2, .int x2), (3, .int x3), (4, .int x4), (5, .int x5), (6, .int x6), (7, .int 0)]) hl [1, 2, 3, 4, 5, 6, 7, 0] rfl
  refine lv_iconst (v := 0) C.1 C.2.1 dX12_trueSum_19 (by decide) ?_
  refine lv_istore (lv' := [(8, .int 0), (0, .ref (ad 0)), (1, .int x1), (2, .int x2), (3, .int x3), (4, .int x4), (5, .int x5), (6, .int x6), (7, .int 0)]) C.1 C.2.1 dX12_trueSum_20 hl (by decide) rfl (fun ls hl => ?_)
  replace hl := lv_sub (l' := [(0, .ref (ad 0)), (1, .int x1), (2, .int x2), (3, .int x3), (4, .int x4), (5, .int x5), (6, .int x6), (7, .int 0), (8, .int 0)]) hl [1, 2, 3, 4, 5, 6, 7, 8, 0] rfl
  exact wLX12_trueSum_0_22 C hK hJ  5000 _ _ _ _ _ _ h hP hS (lv_sub hl [0, 7, 8] rfl)
theorem metX12_trueSum_0 (l : Launch) (D : va_G) (cy : Nat → ClassId) (ad st : Nat → Nat) (hJ : JM ad) (sz : Nat) (x1 : Int32) (x2 : Int32) (x3 : Int32) (x4 : Int32) (x5 : Int32) (x6 : Int32) {u : SX} {r : Int32} {u' : SX} (h : fX12_trueSum_0 x1 x2 x3 x4 x5 x6 u = some (r, u')) : Met l yX12_trueSum wsX12_trueSum rmX12_trueSum_0 (va_Pc [.ref (ad 0), .int x1, .int x2, .int x3, .int x4, .int x5, .int x6] (Px D [(cy 0, .int), (cy 1, .long), (cy 2, .boolean), (cy 3, .byte), (cy 4, .object "HissHorn$Text")] st (VM cy ad st) sz u)) (Qi D (VM cy ad st) (AM ad) sz r u') 0 0 (Ax (AM ad) sz) := by
  refine Met.ofW (cc := cX12_trueSum) (maxL := 9) (ret := (some .int)) (by decide) rfl ?_
  intro p e s m args below meth c s₁ B hml hv
  obtain ⟨rfl, hsz, hP, hK⟩ := hv
  subst hsz
  have C : Cx RX12 cX12_trueSum 9 (some .int) wsX12_trueSum p s m _ meth c := ⟨B.exec, B.bytes, hml, B.returns, findClass_of_methodNamed B.named, atoms_spec (ws := wsX12_trueSum) B.pre, B.notSynchronized⟩
  have hl := lv_entry ([.ref (ad 0), .int x1, .int x2, .int x3, .int x4, .int x5, .int x6]) (n := 9) (Nat.le_of_ble_eq_true rfl)
  rw [lg_entry_eq]
  exact wX12_trueSum_0 C hK hJ x1 x2 x3 x4 x5 x6 h hP va_S.rf hl

theorem dX12_sum__0 : decode cX12_sum_ 0 = .ok (.aload_n 0, 1) := by decide +kernel
theorem dX12_sum__1 : decode cX12_sum_ 1 = .ok (.iconst 0, 1) := by decide +kernel
theorem dX12_sum__2 : decode cX12_sum_ 2 = .ok (.putfield 151, 3) := by decide +kernel
theorem dX12_sum__5 : decode cX12_sum_ 5 = .ok (.iload_n 1, 1) := by decide +kernel
theorem dX12_sum__6 : decode cX12_sum_ 6 = .ok (.iconst 0, 1) := by decide +kernel
theorem dX12_sum__7 : decode cX12_sum_ 7 = .ok (.bipush 120, 2) := by decide +kernel
set_option maxRecDepth 20000 in
theorem ggX12_sum__X12_isIn : GoodIn wsX12_sum_ wsX12_isIn := goodIn_r _ [6] (by decide +kernel) (by decide +kernel)
set_option maxRecDepth 20000 in
theorem gX12_sum__X12_isIn : GoodIn wsX12_sum_ (va_wsS RX12 155 yX12_isIn wsX12_isIn) := goodIn_app (goodIn_of _ (by decide +kernel)) ggX12_sum__X12_isIn
theorem dX12_sum__9 : decode cX12_sum_ 9 = .ok (.invokestatic 155, 3) := by decide +kernel
theorem dX12_sum__12 : decode cX12_sum_ 12 = .ok (.ifCond .eq 33, 3) := by decide +kernel
theorem dX12_sum__45 : decode cX12_sum_ 45 = .ok (.ldc_w 330, 3) := by decide +kernel
theorem dX12_sum__48 : decode cX12_sum_ 48 = .ok (.ireturn, 1) := by decide +kernel
theorem dX12_sum__15 : decode cX12_sum_ 15 = .ok (.iload_n 2, 1) := by decide +kernel
theorem dX12_sum__16 : decode cX12_sum_ 16 = .ok (.iload_n 3, 1) := by decide +kernel
theorem dX12_sum__17 : decode cX12_sum_ 17 = .ok (.iload 4, 2) := by decide +kernel
theorem dX12_sum__19 : decode cX12_sum_ 19 = .ok (.iload 5, 2) := by decide +kernel
theorem dX12_sum__21 : decode cX12_sum_ 21 = .ok (.iload 6, 2) := by decide +kernel
set_option maxRecDepth 20000 in
theorem ggX12_sum__X12_isAim : GoodIn wsX12_sum_ wsX12_isAim := goodIn_r _ [9, 3, 4, 5, 6] (by decide +kernel) (by decide +kernel)
set_option maxRecDepth 20000 in
theorem gX12_sum__X12_isAim : GoodIn wsX12_sum_ (va_wsS RX12 278 yX12_isAim wsX12_isAim) := goodIn_app (goodIn_of _ (by decide +kernel)) ggX12_sum__X12_isAim
theorem dX12_sum__23 : decode cX12_sum_ 23 = .ok (.invokestatic 278, 3) := by decide +kernel
theorem dX12_sum__26 : decode cX12_sum_ 26 = .ok (.ifCond .eq 19, 3) := by decide +kernel
theorem dX12_sum__29 : decode cX12_sum_ 29 = .ok (.aload_n 0, 1) := by decide +kernel
theorem dX12_sum__30 : decode cX12_sum_ 30 = .ok (.iload_n 1, 1) := by decide +kernel
theorem dX12_sum__31 : decode cX12_sum_ 31 = .ok (.iload_n 2, 1) := by decide +kernel
theorem dX12_sum__32 : decode cX12_sum_ 32 = .ok (.iload_n 3, 1) := by decide +kernel
theorem dX12_sum__33 : decode cX12_sum_ 33 = .ok (.iload 4, 2) := by decide +kernel
theorem dX12_sum__35 : decode cX12_sum_ 35 = .ok (.iload 5, 2) := by decide +kernel
theorem dX12_sum__37 : decode cX12_sum_ 37 = .ok (.iload 6, 2) := by decide +kernel
set_option maxRecDepth 20000 in
theorem ggX12_sum__X12_trueSum : GoodIn wsX12_sum_ wsX12_trueSum := goodIn_r _ [13, 14, 15, 16, 17, 18, 5, 19, 20, 21, 22, 23, 24, 25, 26, 27, 28, 29, 30, 31, 32, 33, 34, 35, 36, 37, 38, 39, 40, 41, 42, 43, 44, 45, 46, 47, 48, 49, 50, 51, 52, 53, 54, 55, 56, 57, 58, 59, 60, 61, 62, 63, 64, 65, 66, 67, 68, 69, 70, 71, 72, 73, 74, 75, 76, 77, 78, 79, 80, 81, 82, 83, 84, 85, 86, 87, 88, 89, 90, 91, 92, 93, 94, 95, 96, 97, 98, 99, 100, 101, 102, 103, 104, 105, 106, 107, 108, 109, 110, 111, 112, 113, 114, 115, 116, 117, 118, 119, 120, 121, 122, 123, 124, 125, 126, 127, 128, 129, 130, 131, 132, 133, 134, 135, 136, 137, 138, 139, 140, 141, 142, 143, 144, 145, 146, 147, 148, 149, 150, 151, 152, 153, 154, 155, 156, 157, 158, 159, 160, 161, 162, 163, 164, 165, 166, 167, 168, 169, 170, 171, 172, 173, 174, 175, 176, 177, 178, 179, 180, 181, 182, 183, 184, 185, 186, 187, 188, 189, 190, 191, 192, 193, 194, 195, 196, 197, 198, 199, 200, 201, 202, 203, 204, 205, 206, 207, 208, 209, 210, 211, 212, 213, 214, 215, 216, 217, 218, 219, 220, 221, 222, 223, 224, 225, 226, 227, 228, 229, 230, 231, 232, 233, 234, 235, 236, 237, 238, 239, 240, 241, 242, 243, 244, 245, 246, 247, 248, 249, 250, 251, 252, 253, 254, 255, 256, 257, 258, 259, 260, 261, 262, 263, 264, 265, 266, 267, 268, 269, 270, 271, 272, 273, 274, 275, 276, 277, 278, 279] (by decide +kernel) (by decide +kernel)
set_option maxRecDepth 20000 in
theorem gX12_sum__X12_trueSum : GoodIn wsX12_sum_ (wsV RX12 326 RX12 yX12_trueSum wsX12_trueSum) := goodIn_app (goodIn_of _ (by decide +kernel)) ggX12_sum__X12_trueSum
theorem dX12_sum__39 : decode cX12_sum_ 39 = .ok (.invokevirtual 326, 3) := by decide +kernel
theorem dX12_sum__42 : decode cX12_sum_ 42 = .ok (.goto 6, 3) := by decide +kernel
/-- HissHornModel.sum(IIIIII)I of cell 0 -/
def rmX12_sum__0 : Room := { frames := 139, cells := 0, slots := 0, locals := 8459 }
theorem hX12_sum__0_X12 : ∀ w ∈ u_ws RX12 TX12 69, w ∈ wsX12_sum_ := fun w h => (List.mem_cons_of_mem _ (List.mem_append_right _ h))
theorem mX12_sum__0_1 : Cond.fieldLink RX12 151 "HissHornModel" "thrown" "I" ∈ wsX12_sum_ := (List.mem_cons_of_mem _ (List.mem_append_left _ (List.mem_append_left _ (List.mem_of_getElem? (i := 0) rfl))))
theorem mX12_sum__0_2 : Cond.constant RX12 330 (-100000000) ∈ wsX12_sum_ := (List.mem_cons_of_mem _ (List.mem_append_left _ (List.mem_append_left _ (List.mem_of_getElem? (i := 1) rfl))))
def fX12_sum__0 (x1 : Int32) (x2 : Int32) (x3 : Int32) (x4 : Int32) (x5 : Int32) (x6 : Int32) (u : SX) : Option (Int32 × SX) := (lt (sI u 0 0) fun u1 => ((fX12_isIn x1 0 120).bind fun r3 => (if r3 = 0 then (some ((-100000000), u1)) else ((fX12_isAim x2 x3 x4 x5 x6).bind fun r6 => (if r6 = 0 then (some ((-100000000), u1)) else ((fX12_trueSum_0 x1 x2 x3 x4 x5 x6 u1).bind fun q => match q with | (r9, u10) => (some (r9, u10))))))))
set_option maxHeartbeats 4000000 in
set_option maxRecDepth 100000 in
theorem wX12_sum__0 {p : Program} {l : Launch} {e : Env} {s : State} {m : MethodId} {args : Array Value} {below : List Frame} {meth : Method} {c : Code} {D : va_G} {cy : Nat → ClassId} {ad st : Nat → Nat} (C : Cx RX12 cX12_sum_ 7 (some .int) wsX12_sum_ p s m args meth c) (hK : Kx D [(cy 0, .int), (cy 1, .long), (cy 2, .boolean), (cy 3, .byte), (cy 4, .object "HissHorn$Text")] st s) (hJ : JM ad) (x1 : Int32) (x2 : Int32) (x3 : Int32) (x4 : Int32) (x5 : Int32) (x6 : Int32) {u : SX} {r : Int32} {u' : SX} {H : Heap} {locs : List Loc} {ls : Array Slot} (h : fX12_sum__0 x1 x2 x3 x4 x5 x6 u = some (r, u')) (hP : va_P D vwCl (VM cy ad st u) H) (hS : va_S (Ax (AM ad) s.heap.size) s.heap H locs) (hl : lv_has ls 7 [(0, .ref (ad 0)), (1, .int x1), (2, .int x2), (3, .int x3), (4, .int x4), (5, .int x5), (6, .int x6)]) : W p l e rmX12_sum__0 s m args below meth c H locs 0 0 (MQ below (Qi D (VM cy ad st) (AM ad) s.heap.size r u') args s 0 0 (Ax (AM ad) s.heap.size)) (F0 m 0 ls []) := by
  unfold fX12_sum__0 at h
  refine lv_aload_n C.1 C.2.1 dX12_sum__0 rfl (lv_at hl 0 rfl) ?_
  refine lv_iconst (v := 0) C.1 C.2.1 dX12_sum__1 (by decide) ?_
  refine pM_0_thrown C hX12_sum__0_X12 hK hP hJ hS mX12_sum__0_1 dX12_sum__2 (fun H locs hP hS => ?_)
  obtain ⟨u1, hu2, h⟩ := lt_some h
  rw [← hu2] at hP
  refine lv_iload_n C.1 C.2.1 dX12_sum__5 rfl (lv_at hl 1 rfl) ?_
  refine lv_iconst (v := 0) C.1 C.2.1 dX12_sum__6 (by decide) ?_
  refine lv_bipush (v := 120) C.1 C.2.1 dX12_sum__7 (by decide) ?_
  obtain ⟨r3, hc5, h⟩ := bd_some h
  refine cs_i (As := [.int x1, .int 0, .int 120]) (rest := []) C hK hP hS (metX12_isIn l D cy st _ x1 0 120 hc5) (va_cwS 3 C.2.2.2.2.2.1 gX12_sum__X12_isIn rfl rfl rfl (by decide +kernel) ⟨(Nat.le_of_ble_eq_true rfl), (Nat.le_of_ble_eq_true rfl)⟩) rfl hl.1 rfl (Nat.le_of_ble_eq_true rfl) dX12_sum__9 ⟨Nat.zero_le _, Nat.zero_le _⟩ (fun H locs hP hS => ?_)
  refine lv_if_eq (tgt := 45) C.1 C.2.1 dX12_sum__12 (by decide) (fun c12 => ?_) (fun c12 => ?_)
  · rw [if_pos c12] at h
    refine lv_ldcw C.1 C.2.1 C.2.2.2.2.1 (C.2.2.2.2.2.1 _ mX12_sum__0_2) dX12_sum__45 ?_
    cases h
    exact rt_i C hP hS dX12_sum__48
  · rw [if_neg c12] at h
    refine lv_iload_n C.1 C.2.1 dX12_sum__15 rfl (lv_at hl 2 rfl) ?_
    refine lv_iload_n C.1 C.2.1 dX12_sum__16 rfl (lv_at hl 3 rfl) ?_
    refine lv_iload C.1 C.2.1 dX12_sum__17 (lv_at hl 4 rfl) ?_
    refine lv_iload C.1 C.2.1 dX12_sum__19 (lv_at hl 5 rfl) ?_
    refine lv_iload C.1 C.2.1 dX12_sum__21 (lv_at hl 6 rfl) ?_
    obtain ⟨r6, hc8, h⟩ := bd_some h
    refine cs_i (As := [.int x2, .int x3, .int x4, .int x5, .int x6]) (rest := []) C hK hP hS (metX12_isAim l D cy st _ x2 x3 x4 x5 x6 hc8) (va_cwS 5 C.2.2.2.2.2.1 gX12_sum__X12_isAim rfl rfl rfl (by decide +kernel) ⟨(Nat.le_of_ble_eq_true rfl), (Nat.le_of_ble_eq_true rfl)⟩) rfl hl.1 rfl (Nat.le_of_ble_eq_true rfl) dX12_sum__23 ⟨Nat.zero_le _, Nat.zero_le _⟩ (fun H locs hP hS => ?_)
    refine lv_if_eq (tgt := 45) C.1 C.2.1 dX12_sum__26 (by decide) (fun c26 => ?_) (fun c26 => ?_)
    · rw [if_pos c26] at h
      refine lv_ldcw C.1 C.2.1 C.2.2.2.2.1 (C.2.2.2.2.2.1 _ mX12_sum__0_2) dX12_sum__45 ?_
      cases h
      exact rt_i C hP hS dX12_sum__48
    · rw [if_neg c26] at h
      refine lv_aload_n C.1 C.2.1 dX12_sum__29 rfl (lv_at hl 0 rfl) ?_
      refine lv_iload_n C.1 C.2.1 dX12_sum__30 rfl (lv_at hl 1 rfl) ?_
      refine lv_iload_n C.1 C.2.1 dX12_sum__31 rfl (lv_at hl 2 rfl) ?_
      refine lv_iload_n C.1 C.2.1 dX12_sum__32 rfl (lv_at hl 3 rfl) ?_
      refine lv_iload C.1 C.2.1 dX12_sum__33 (lv_at hl 4 rfl) ?_
      refine lv_iload C.1 C.2.1 dX12_sum__35 (lv_at hl 5 rfl) ?_
      refine lv_iload C.1 C.2.1 dX12_sum__37 (lv_at hl 6 rfl) ?_
      obtain ⟨⟨r9, u10⟩, hc11, h⟩ := bd_some h
      try dsimp only at h
      refine cg_i (As := [.int x1, .int x2, .int x3, .int x4, .int x5, .int x6]) (rest := []) C hK hP hS (metX12_trueSum_0 l D cy ad st hJ _ x1 x2 x3 x4 x5 x6 hc11) (cwV 6 C.2.2.2.2.2.1 gX12_sum__X12_trueSum rfl rfl rfl (by decide +kernel) ⟨(Nat.le_of_ble_eq_true rfl), (Nat.le_of_ble_eq_true rfl)⟩) 0 12 rfl rfl rfl hl.1 rfl (Nat.le_of_ble_eq_true rfl) dX12_sum__39 ⟨Nat.zero_le _, Nat.zero_le _⟩ (fun H locs hP hS => ?_)
      refine lv_goto (tgt := 48) C.1 C.2.1 dX12_sum__42 (by decide) ?_
      cases h
      exact rt_i C hP hS dX12_sum__48
theorem metX12_sum__0 (l : Launch) (D : va_G) (cy : Nat → ClassId) (ad st : Nat → Nat) (hJ : JM ad) (sz : Nat) (x1 : Int32) (x2 : Int32) (x3 : Int32) (x4 : Int32) (x5 : Int32) (x6 : Int32) {u : SX} {r : Int32} {u' : SX} (h : fX12_sum__0 x1 x2 x3 x4 x5 x6 u = some (r, u')) : Met l yX12_sum_ wsX12_sum_ rmX12_sum__0 (va_Pc [.ref (ad 0), .int x1, .int x2, .int x3, .int x4, .int x5, .int x6] (Px D [(cy 0, .int), (cy 1, .long), (cy 2, .boolean), (cy 3, .byte), (cy 4, .object "HissHorn$Text")] st (VM cy ad st) sz u)) (Qi D (VM cy ad st) (AM ad) sz r u') 0 0 (Ax (AM ad) sz) := by
  refine Met.ofW (cc := cX12_sum_) (maxL := 7) (ret := (some .int)) (by decide) rfl ?_
  intro p e s m args below meth c s₁ B hml hv
  obtain ⟨rfl, hsz, hP, hK⟩ := hv
  subst hsz
  have C : Cx RX12 cX12_sum_ 7 (some .int) wsX12_sum_ p s m _ meth c := ⟨B.exec, B.bytes, hml, B.returns, findClass_of_methodNamed B.named, atoms_spec (ws := wsX12_sum_) B.pre, B.notSynchronized⟩
  have hl := lv_entry ([.ref (ad 0), .int x1, .int x2, .int x3, .int x4, .int x5, .int x6]) (n := 7) (Nat.le_of_ble_eq_true rfl)
  rw [lg_entry_eq]
  exact wX12_sum__0 C hK hJ x1 x2 x3 x4 x5 x6 h hP va_S.rf hl

theorem dX12_heard_0 : decode cX12_heard 0 = .ok (.aload_n 0, 1) := by decide +kernel
theorem dX12_heard_1 : decode cX12_heard 1 = .ok (.iconst 0, 1) := by decide +kernel
theorem dX12_heard_2 : decode cX12_heard 2 = .ok (.putfield 151, 3) := by decide +kernel
theorem dX12_heard_5 : decode cX12_heard 5 = .ok (.iload_n 1, 1) := by decide +kernel
theorem dX12_heard_6 : decode cX12_heard 6 = .ok (.iload_n 2, 1) := by decide +kernel
theorem dX12_heard_7 : decode cX12_heard 7 = .ok (.iload_n 3, 1) := by decide +kernel
theorem dX12_heard_8 : decode cX12_heard 8 = .ok (.iload 4, 2) := by decide +kernel
theorem dX12_heard_10 : decode cX12_heard 10 = .ok (.iload 5, 2) := by decide +kernel
set_option maxRecDepth 20000 in
theorem ggX12_heard_X12_isAim : GoodIn wsX12_heard wsX12_isAim := goodIn_r _ [9, 10, 11, 8, 12] (by decide +kernel) (by decide +kernel)
set_option maxRecDepth 20000 in
theorem gX12_heard_X12_isAim : GoodIn wsX12_heard (va_wsS RX12 278 yX12_isAim wsX12_isAim) := goodIn_app (goodIn_of _ (by decide +kernel)) ggX12_heard_X12_isAim
theorem dX12_heard_12 : decode cX12_heard 12 = .ok (.invokestatic 278, 3) := by decide +kernel
theorem dX12_heard_15 : decode cX12_heard 15 = .ok (.ifCond .eq 14, 3) := by decide +kernel
theorem dX12_heard_29 : decode cX12_heard 29 = .ok (.ldc_w 330, 3) := by decide +kernel
theorem dX12_heard_32 : decode cX12_heard 32 = .ok (.ireturn, 1) := by decide +kernel
theorem dX12_heard_18 : decode cX12_heard 18 = .ok (.iload 6, 2) := by decide +kernel
theorem dX12_heard_20 : decode cX12_heard 20 = .ok (.iconst 0, 1) := by decide +kernel
theorem dX12_heard_21 : decode cX12_heard 21 = .ok (.bipush 50, 2) := by decide +kernel
set_option maxRecDepth 20000 in
theorem ggX12_heard_X12_isIn : GoodIn wsX12_heard wsX12_isIn := goodIn_r _ [12] (by decide +kernel) (by decide +kernel)
set_option maxRecDepth 20000 in
theorem gX12_heard_X12_isIn : GoodIn wsX12_heard (va_wsS RX12 155 yX12_isIn wsX12_isIn) := goodIn_app (goodIn_of _ (by decide +kernel)) ggX12_heard_X12_isIn
theorem dX12_heard_23 : decode cX12_heard 23 = .ok (.invokestatic 155, 3) := by decide +kernel
theorem dX12_heard_26 : decode cX12_heard 26 = .ok (.ifCond .ne 7, 3) := by decide +kernel
theorem dX12_heard_33 : decode cX12_heard 33 = .ok (.lload 7, 2) := by decide +kernel
theorem dX12_heard_35 : decode cX12_heard 35 = .ok (.ldc2_w 331, 3) := by decide +kernel
theorem dX12_heard_38 : decode cX12_heard 38 = .ok (.lmul, 1) := by decide +kernel
theorem dX12_heard_39 : decode cX12_heard 39 = .ok (.ldc2_w 333, 3) := by decide +kernel
theorem dX12_heard_42 : decode cX12_heard 42 = .ok (.ladd, 1) := by decide +kernel
theorem dX12_heard_43 : decode cX12_heard 43 = .ok (.lstore 9, 2) := by decide +kernel
theorem dX12_heard_45 : decode cX12_heard 45 = .ok (.aload_n 0, 1) := by decide +kernel
theorem dX12_heard_46 : decode cX12_heard 46 = .ok (.aload_n 0, 1) := by decide +kernel
theorem dX12_heard_47 : decode cX12_heard 47 = .ok (.getfield 159, 3) := by decide +kernel
theorem dX12_heard_50 : decode cX12_heard 50 = .ok (.iload_n 1, 1) := by decide +kernel
theorem dX12_heard_51 : decode cX12_heard 51 = .ok (.iload_n 2, 1) := by decide +kernel
theorem dX12_heard_52 : decode cX12_heard 52 = .ok (.iload_n 3, 1) := by decide +kernel
theorem dX12_heard_53 : decode cX12_heard 53 = .ok (.iload 4, 2) := by decide +kernel
theorem dX12_heard_55 : decode cX12_heard 55 = .ok (.iload 5, 2) := by decide +kernel
set_option maxRecDepth 20000 in
theorem ggX12_heard_X12_trueSum : GoodIn wsX12_heard wsX12_trueSum := goodIn_r _ [16, 17, 18, 19, 20, 21, 8, 22, 23, 24, 25, 26, 27, 28, 29, 30, 31, 32, 33, 34, 35, 36, 37, 38, 39, 40, 41, 42, 43, 44, 45, 46, 47, 48, 49, 50, 51, 52, 53, 54, 55, 56, 57, 58, 59, 60, 61, 62, 63, 64, 65, 66, 67, 68, 69, 70, 71, 72, 73, 74, 75, 76, 77, 78, 79, 80, 81, 82, 83, 84, 85, 86, 87, 88, 89, 90, 91, 92, 93, 94, 95, 96, 97, 98, 99, 100, 101, 102, 103, 104, 105, 106, 107, 108, 109, 110, 111, 112, 113, 114, 115, 116, 117, 118, 119, 120, 121, 122, 123, 124, 125, 126, 127, 128, 129, 130, 131, 132, 133, 134, 135, 136, 137, 138, 139, 140, 141, 142, 143, 144, 145, 146, 147, 148, 149, 150, 151, 152, 153, 154, 155, 156, 157, 158, 159, 160, 161, 162, 163, 164, 165, 166, 167, 168, 169, 170, 171, 172, 173, 174, 175, 176, 177, 178, 179, 180, 181, 182, 183, 184, 185, 186, 187, 188, 189, 190, 191, 192, 193, 194, 195, 196, 197, 198, 199, 200, 201, 202, 203, 204, 205, 206, 207, 208, 209, 210, 211, 212, 213, 214, 215, 216, 217, 218, 219, 220, 221, 222, 223, 224, 225, 226, 227, 228, 229, 230, 231, 232, 233, 234, 235, 236, 237, 238, 239, 240, 241, 242, 243, 244, 245, 246, 247, 248, 249, 250, 251, 252, 253, 254, 255, 256, 257, 258, 259, 260, 261, 262, 263, 264, 265, 266, 267, 268, 269, 270, 271, 272, 273, 274, 275, 276, 277, 278, 279, 280, 281, 282] (by decide +kernel) (by decide +kernel)
set_option maxRecDepth 20000 in
theorem gX12_heard_X12_trueSum : GoodIn wsX12_heard (wsV RX12 326 RX12 yX12_trueSum wsX12_trueSum) := goodIn_app (goodIn_of _ (by decide +kernel)) ggX12_heard_X12_trueSum
theorem dX12_heard_57 : decode cX12_heard 57 = .ok (.invokevirtual 326, 3) := by decide +kernel
theorem dX12_heard_60 : decode cX12_heard 60 = .ok (.lload 9, 2) := by decide +kernel
theorem dX12_heard_62 : decode cX12_heard 62 = .ok (.bipush 33, 2) := by decide +kernel
theorem dX12_heard_64 : decode cX12_heard 64 = .ok (.lushr, 1) := by decide +kernel
theorem dX12_heard_65 : decode cX12_heard 65 = .ok (.iconst 2, 1) := by decide +kernel
theorem dX12_heard_66 : decode cX12_heard 66 = .ok (.iload 6, 2) := by decide +kernel
theorem dX12_heard_68 : decode cX12_heard 68 = .ok (.imul, 1) := by decide +kernel
theorem dX12_heard_69 : decode cX12_heard 69 = .ok (.iconst 1, 1) := by decide +kernel
theorem dX12_heard_70 : decode cX12_heard 70 = .ok (.iadd, 1) := by decide +kernel
theorem dX12_heard_71 : decode cX12_heard 71 = .ok (.i2l, 1) := by decide +kernel
theorem dX12_heard_72 : decode cX12_heard 72 = .ok (.lrem, 1) := by decide +kernel
theorem dX12_heard_73 : decode cX12_heard 73 = .ok (.l2i, 1) := by decide +kernel
theorem dX12_heard_74 : decode cX12_heard 74 = .ok (.iadd, 1) := by decide +kernel
theorem dX12_heard_75 : decode cX12_heard 75 = .ok (.iload 6, 2) := by decide +kernel
theorem dX12_heard_77 : decode cX12_heard 77 = .ok (.isub, 1) := by decide +kernel
theorem dX12_heard_78 : decode cX12_heard 78 = .ok (.ireturn, 1) := by decide +kernel
/-- HissHornModel.heard(IIIIIIJ)I of cell 0 -/
def rmX12_heard_0 : Room := { frames := 139, cells := 0, slots := 0, locals := 8459 }
theorem hX12_heard_0_X12 : ∀ w ∈ u_ws RX12 TX12 69, w ∈ wsX12_heard := fun w h => (List.mem_cons_of_mem _ (List.mem_append_right _ h))
theorem mX12_heard_0_1 : Cond.fieldLink RX12 151 "HissHornModel" "thrown" "I" ∈ wsX12_heard := (List.mem_cons_of_mem _ (List.mem_append_left _ (List.mem_append_left _ (List.mem_of_getElem? (i := 0) rfl))))
theorem mX12_heard_0_2 : Cond.constant RX12 330 (-100000000) ∈ wsX12_heard := (List.mem_cons_of_mem _ (List.mem_append_left _ (List.mem_append_left _ (List.mem_of_getElem? (i := 1) rfl))))
theorem mX12_heard_0_3 : Cond.constantLong RX12 331 (6364136223846793005) ∈ wsX12_heard := (List.mem_cons_of_mem _ (List.mem_append_left _ (List.mem_append_left _ (List.mem_of_getElem? (i := 2) rfl))))
theorem mX12_heard_0_4 : Cond.constantLong RX12 333 (1442695040888963407) ∈ wsX12_heard := (List.mem_cons_of_mem _ (List.mem_append_left _ (List.mem_append_left _ (List.mem_of_getElem? (i := 3) rfl))))
theorem mX12_heard_0_5 : Cond.fieldLink RX12 159 "HissHornModel" "now" "I" ∈ wsX12_heard := (List.mem_cons_of_mem _ (List.mem_append_left _ (List.mem_append_left _ (List.mem_of_getElem? (i := 4) rfl))))
def fX12_heard_0 (x1 : Int32) (x2 : Int32) (x3 : Int32) (x4 : Int32) (x5 : Int32) (x6 : Int32) (x7 : Int64) (u : SX) : Option (Int32 × SX) := (lt (sI u 0 0) fun u1 => ((fX12_isAim x1 x2 x3 x4 x5).bind fun r3 => (if r3 = 0 then (some ((-100000000), u1)) else ((fX12_isIn x6 0 50).bind fun r6 => (if r6 = 0 then (some ((-100000000), u1)) else (lt ((x7 * 6364136223846793005) + 1442695040888963407) fun v9 => ((fX12_trueSum_0 (u1.1 1) x1 x2 x3 x4 x5 u1).bind fun q => match q with | (r11, u12) => (gd (nzL (((2 * x6) + 1).toInt64)) (some ((r11 + ((((v9.toUInt64 >>> ((33 : Int32).toInt64.toUInt64 &&& Int64.toUInt64 63)).toInt64) - ((v9.toUInt64 >>> ((33 : Int32).toInt64.toUInt64 &&& Int64.toUInt64 63)).toInt64) / (((2 * x6) + 1).toInt64) * (((2 * x6) + 1).toInt64)).toInt32)) - x6, u12))))))))))
set_option maxHeartbeats 4000000 in
set_option maxRecDepth 100000 in
theorem wX12_heard_0 {p : Program} {l : Launch} {e : Env} {s : State} {m : MethodId} {args : Array Value} {below : List Frame} {meth : Method} {c : Code} {D : va_G} {cy : Nat → ClassId} {ad st : Nat → Nat} (C : Cx RX12 cX12_heard 11 (some .int) wsX12_heard p s m args meth c) (hK : Kx D [(cy 0, .int), (cy 1, .long), (cy 2, .boolean), (cy 3, .byte), (cy 4, .object "HissHorn$Text")] st s) (hJ : JM ad) (x1 : Int32) (x2 : Int32) (x3 : Int32) (x4 : Int32) (x5 : Int32) (x6 : Int32) (x7 : Int64) {u : SX} {r : Int32} {u' : SX} {H : Heap} {locs : List Loc} {ls : Array Slot} (h : fX12_heard_0 x1 x2 x3 x4 x5 x6 x7 u = some (r, u')) (hP : va_P D vwCl (VM cy ad st u) H) (hS : va_S (Ax (AM ad) s.heap.size) s.heap H locs) (hl : lv_has ls 11 [(0, .ref (ad 0)), (1, .int x1), (2, .int x2), (3, .int x3), (4, .int x4), (5, .int x5), (6, .int x6), (7, .long x7)]) : W p l e rmX12_heard_0 s m args below meth c H locs 0 0 (MQ below (Qi D (VM cy ad st) (AM ad) s.heap.size r u') args s 0 0 (Ax (AM ad) s.heap.size)) (F0 m 0 ls []) := by
  unfold fX12_heard_0 at h
  refine lv_aload_n C.1 C.2.1 dX12_heard_0 rfl (lv_at hl 0 rfl) ?_
  refine lv_iconst (v := 0) C.1 C.2.1 dX12_heard_1 (by decide) ?_
  refine pM_0_thrown C hX12_heard_0_X12 hK hP hJ hS mX12_heard_0_1 dX12_heard_2 (fun H locs hP hS => ?_)
  obtain ⟨u1, hu2, h⟩ := lt_some h
  rw [← hu2] at hP
  refine lv_iload_n C.1 C.2.1 dX12_heard_5 rfl (lv_at hl 1 rfl) ?_
  refine lv_iload_n C.1 C.2.1 dX12_heard_6 rfl (lv_at hl 2 rfl) ?_
  refine lv_iload_n C.1 C.2.1 dX12_heard_7 rfl (lv_at hl 3 rfl) ?_
  refine lv_iload C.1 C.2.1 dX12_heard_8 (lv_at hl 4 rfl) ?_
  refine lv_iload C.1 C.2.1 dX12_heard_10 (lv_at hl 5 rfl) ?_
  obtain ⟨r3, hc5, h⟩ := bd_some h
  refine cs_i (As := [.int x1, .int x2, .int x3, .int x4, .int x5]) (rest := []) C hK hP hS (metX12_isAim l D cy st _ x1 x2 x3 x4 x5 hc5) (va_cwS 5 C.2.2.2.2.2.1 gX12_heard_X12_isAim rfl rfl rfl (by decide +kernel) ⟨(Nat.le_of_ble_eq_true rfl), (Nat.le_of_ble_eq_true rfl)⟩) rfl hl.1 rfl (Nat.le_of_ble_eq_true rfl) dX12_heard_12 ⟨Nat.zero_le _, Nat.zero_le _⟩ (fun H locs hP hS => ?_)
  refine lv_if_eq (tgt := 29) C.1 C.2.1 dX12_heard_15 (by decide) (fun c15 => ?_) (fun c15 => ?_)
  · rw [if_pos c15] at h
    refine lv_ldcw C.1 C.2.1 C.2.2.2.2.1 (C.2.2.2.2.2.1 _ mX12_heard_0_2) dX12_heard_29 ?_
    cases h
    exact rt_i C hP hS dX12_heard_32
  · rw [if_neg c15] at h
    refine lv_iload C.1 C.2.1 dX12_heard_18 (lv_at hl 6 rfl) ?_
    refine lv_iconst (v := 0) C.1 C.2.1 dX12_heard_20 (by decide) ?_
    refine lv_bipush (v := 50) C.1 C.2.1 dX12_heard_21 (by decide) ?_
    obtain ⟨r6, hc8, h⟩ := bd_some h
    refine cs_i (As := [.int x6, .int 0, .int 50]) (rest := []) C hK hP hS (metX12_isIn l D cy st _ x6 0 50 hc8) (va_cwS 3 C.2.2.2.2.2.1 gX12_heard_X12_isIn rfl rfl rfl (by decide +kernel) ⟨(Nat.le_of_ble_eq_true rfl), (Nat.le_of_ble_eq_true rfl)⟩) rfl hl.1 rfl (Nat.le_of_ble_eq_true rfl) dX12_heard_23 ⟨Nat.zero_le _, Nat.zero_le _⟩ (fun H locs hP hS => ?_)
    refine lv_if_ne (tgt := 33) C.1 C.2.1 dX12_heard_26 (by decide) (fun c26 => ?_) (fun c26 => ?_)
    · rw [if_neg c26] at h
      refine lv_lload C.1 C.2.1 dX12_heard_33 (lv_at hl 7 rfl) ?_
      refine lv_ldc2 C.1 C.2.1 C.2.2.2.2.1 (C.2.2.2.2.2.1 _ mX12_heard_0_3) dX12_heard_35 ?_
      refine lv_lmul C.1 C.2.1 dX12_heard_38 ?_
      refine lv_ldc2 C.1 C.2.1 C.2.2.2.2.1 (C.2.2.2.2.2.1 _ mX12_heard_0_4) dX12_heard_39 ?_
      refine lv_ladd C.1 C.2.1 dX12_heard_42 ?_
      refine lv_topl (fun v9 hv10 => ?_)
      replace h := lt_e hv10 h
      try dsimp only at h
      refine lv_lstore (lv' := [(9, .long v9), (0, .ref (ad 0)), (1, .int x1), (2, .int x2), (3, .int x3), (4, .int x4), (5, .int x5), (6, .int x6), (7, .long x7)]) C.1 C.2.1 dX12_heard_43 hl (by decide) rfl (fun ls hl => ?_)
      replace hl := lv_sub (l' := [(0, .ref (ad 0)), (1, .int x1), (2, .int x2), (3, .int x3), (4, .int x4), (5, .int x5), (6, .int x6), (7, .long x7), (9, .long v9)]) hl [1, 2, 3, 4, 5, 6, 7, 8, 0] rfl
      refine lv_aload_n C.1 C.2.1 dX12_heard_45 rfl (lv_at hl 0 rfl) ?_
      refine lv_aload_n C.1 C.2.1 dX12_heard_46 rfl (lv_at hl 0 rfl) ?_
      refine gM_0_now C hX12_heard_0_X12 hK hP mX12_heard_0_5 dX12_heard_47 ?_
      refine lv_iload_n C.1 C.2.1 dX12_heard_50 rfl (lv_at hl 1 rfl) ?_
      refine lv_iload_n C.1 C.2.1 dX12_heard_51 rfl (lv_at hl 2 rfl) ?_
      refine lv_iload_n C.1 C.2.1 dX12_heard_52 rfl (lv_at hl 3 rfl) ?_
      refine lv_iload C.1 C.2.1 dX12_heard_53 (lv_at hl 4 rfl) ?_
      refine lv_iload C.1 C.2.1 dX12_heard_55 (lv_at hl 5 rfl) ?_
      obtain ⟨⟨r11, u12⟩, hc13, h⟩ := bd_some h
      try dsimp only at h
      refine cg_i (As := [.int (u1.1 1), .int x1, .int x2, .int x3, .int x4, .int x5]) (rest := []) C hK hP hS (metX12_trueSum_0 l D cy ad st hJ _ (u1.1 1) x1 x2 x3 x4 x5 hc13) (cwV 6 C.2.2.2.2.2.1 gX12_heard_X12_trueSum rfl rfl rfl (by decide +kernel) ⟨(Nat.le_of_ble_eq_true rfl), (Nat.le_of_ble_eq_true rfl)⟩) 0 12 rfl rfl rfl hl.1 rfl (Nat.le_of_ble_eq_true rfl) dX12_heard_57 ⟨Nat.zero_le _, Nat.zero_le _⟩ (fun H locs hP hS => ?_)
      refine lv_lload C.1 C.2.1 dX12_heard_60 (lv_at hl 8 rfl) ?_
      refine lv_bipush (v := 33) C.1 C.2.1 dX12_heard_62 (by decide) ?_
      refine lv_lushr (v := (v9.toUInt64 >>> ((33 : Int32).toInt64.toUInt64 &&& Int64.toUInt64 63)).toInt64) C.1 C.2.1 dX12_heard_64 rfl ?_
      refine lv_iconst (v := 2) C.1 C.2.1 dX12_heard_65 (by decide) ?_
      refine lv_iload C.1 C.2.1 dX12_heard_66 (lv_at hl 6 rfl) ?_
      refine lv_imul C.1 C.2.1 dX12_heard_68 ?_
      refine lv_iconst (v := 1) C.1 C.2.1 dX12_heard_69 (by decide) ?_
      refine lv_iadd C.1 C.2.1 dX12_heard_70 ?_
      refine lv_i2l (v := ((2 * x6) + 1).toInt64) C.1 C.2.1 dX12_heard_71 rfl ?_
      obtain ⟨hg14, h⟩ := gd_some h
      refine lv_lrem C.1 C.2.1 dX12_heard_72 (nzL_n hg14) ?_
      refine lv_l2i (v := (((v9.toUInt64 >>> ((33 : Int32).toInt64.toUInt64 &&& Int64.toUInt64 63)).toInt64) - ((v9.toUInt64 >>> ((33 : Int32).toInt64.toUInt64 &&& Int64.toUInt64 63)).toInt64) / (((2 * x6) + 1).toInt64) * (((2 * x6) + 1).toInt64)).toInt32) C.1 C.2.1 dX12_heard_73 rfl ?_
      refine lv_iadd C.1 C.2.1 dX12_heard_74 ?_
      refine lv_iload C.1 C.2.1 dX12_heard_75 (lv_at hl 6 rfl) ?_
      refine lv_isub C.1 C.2.1 dX12_heard_77 ?_
      cases h
      exact rt_i C hP hS dX12_heard_78
    · rw [if_pos c26] at h
      refine lv_ldcw C.1 C.2.1 C.2.2.2.2.1 (C.2.2.2.2.2.1 _ mX12_heard_0_2) dX12_heard_29 ?_
      cases h
      exact rt_i C hP hS dX12_heard_32
theorem metX12_heard_0 (l : Launch) (D : va_G) (cy : Nat → ClassId) (ad st : Nat → Nat) (hJ : JM ad) (sz : Nat) (x1 : Int32) (x2 : Int32) (x3 : Int32) (x4 : Int32) (x5 : Int32) (x6 : Int32) (x7 : Int64) {u : SX} {r : Int32} {u' : SX} (h : fX12_heard_0 x1 x2 x3 x4 x5 x6 x7 u = some (r, u')) : Met l yX12_heard wsX12_heard rmX12_heard_0 (va_Pc [.ref (ad 0), .int x1, .int x2, .int x3, .int x4, .int x5, .int x6, .long x7] (Px D [(cy 0, .int), (cy 1, .long), (cy 2, .boolean), (cy 3, .byte), (cy 4, .object "HissHorn$Text")] st (VM cy ad st) sz u)) (Qi D (VM cy ad st) (AM ad) sz r u') 0 0 (Ax (AM ad) sz) := by
  refine Met.ofW (cc := cX12_heard) (maxL := 11) (ret := (some .int)) (by decide) rfl ?_
  intro p e s m args below meth c s₁ B hml hv
  obtain ⟨rfl, hsz, hP, hK⟩ := hv
  subst hsz
  have C : Cx RX12 cX12_heard 11 (some .int) wsX12_heard p s m _ meth c := ⟨B.exec, B.bytes, hml, B.returns, findClass_of_methodNamed B.named, atoms_spec (ws := wsX12_heard) B.pre, B.notSynchronized⟩
  have hl := lv_entry ([.ref (ad 0), .int x1, .int x2, .int x3, .int x4, .int x5, .int x6, .long x7]) (n := 11) (Nat.le_of_ble_eq_true rfl)
  rw [lg_entry_eq]
  exact wX12_heard_0 C hK hJ x1 x2 x3 x4 x5 x6 x7 h hP va_S.rf hl

theorem dX12_isReading_0 : decode cX12_isReading 0 = .ok (.iload_n 1, 1) := by decide +kernel
theorem dX12_isReading_1 : decode cX12_isReading 1 = .ok (.ifCond .lt 15, 3) := by decide +kernel
theorem dX12_isReading_16 : decode cX12_isReading 16 = .ok (.iconst 0, 1) := by decide +kernel
theorem dX12_isReading_17 : decode cX12_isReading 17 = .ok (.ireturn, 1) := by decide +kernel
theorem dX12_isReading_4 : decode cX12_isReading 4 = .ok (.iload_n 1, 1) := by decide +kernel
theorem dX12_isReading_5 : decode cX12_isReading 5 = .ok (.aload_n 0, 1) := by decide +kernel
theorem dX12_isReading_6 : decode cX12_isReading 6 = .ok (.getfield 335, 3) := by decide +kernel
theorem dX12_isReading_9 : decode cX12_isReading 9 = .ok (.if_icmp .ge 7, 3) := by decide +kernel
theorem dX12_isReading_12 : decode cX12_isReading 12 = .ok (.iconst 1, 1) := by decide +kernel
theorem dX12_isReading_13 : decode cX12_isReading 13 = .ok (.goto 4, 3) := by decide +kernel
/-- HissHornModel.isReading(I)Z of cell 0 -/
def rmX12_isReading_0 : Room := { frames := 0, cells := 0, slots := 0, locals := 0 }
theorem hX12_isReading_0_X12 : ∀ w ∈ u_ws RX12 TX12 69, w ∈ wsX12_isReading := fun w h => (List.mem_cons_of_mem _ (List.mem_append_right _ h))
theorem mX12_isReading_0_1 : Cond.fieldLink RX12 335 "HissHornModel" "readings" "I" ∈ wsX12_isReading := (List.mem_cons_of_mem _ (List.mem_append_left _ (List.mem_of_getElem? (i := 0) rfl)))
def fX12_isReading_0 (x1 : Int32) (u : SX) : Option (Int32 × SX) := (if x1 < 0 then (gd (isB 0) (some (0, u))) else (if (u.1 15) ≤ x1 then (gd (isB 0) (some (0, u))) else (gd (isB 1) (some (1, u)))))
set_option maxHeartbeats 4000000 in
set_option maxRecDepth 100000 in
theorem wX12_isReading_0 {p : Program} {l : Launch} {e : Env} {s : State} {m : MethodId} {args : Array Value} {below : List Frame} {meth : Method} {c : Code} {D : va_G} {cy : Nat → ClassId} {ad st : Nat → Nat} (C : Cx RX12 cX12_isReading 2 (some .boolean) wsX12_isReading p s m args meth c) (hK : Kx D [(cy 0, .int), (cy 1, .long), (cy 2, .boolean), (cy 3, .byte), (cy 4, .object "HissHorn$Text")] st s) (hJ : JM ad) (x1 : Int32) {u : SX} {r : Int32} {u' : SX} {H : Heap} {locs : List Loc} {ls : Array Slot} (h : fX12_isReading_0 x1 u = some (r, u')) (hP : va_P D vwCl (VM cy ad st u) H) (hS : va_S (Ax (AM ad) s.heap.size) s.heap H locs) (hl : lv_has ls 2 [(0, .ref (ad 0)), (1, .int x1)]) : W p l e rmX12_isReading_0 s m args below meth c H locs 0 0 (MQ below (Qi D (VM cy ad st) (AM ad) s.heap.size r u') args s 0 0 (Ax (AM ad) s.heap.size)) (F0 m 0 ls []) := by
  unfold fX12_isReading_0 at h
  refine lv_iload_n C.1 C.2.1 dX12_isReading_0 rfl (lv_at hl 1 rfl) ?_
  refine lv_if_lt (tgt := 16) C.1 C.2.1 dX12_isReading_1 (by decide) (fun c1 => ?_) (fun c1 => ?_)
  · rw [if_pos c1] at h
    refine lv_iconst (v := 0) C.1 C.2.1 dX12_isReading_16 (by decide) ?_
    obtain ⟨hg1, h⟩ := gd_some h
    cases h
    exact rt_z hg1 C hP hS dX12_isReading_17
  · rw [if_neg c1] at h
    refine lv_iload_n C.1 C.2.1 dX12_isReading_4 rfl (lv_at hl 1 rfl) ?_
    refine lv_aload_n C.1 C.2.1 dX12_isReading_5 rfl (lv_at hl 0 rfl) ?_
    refine gM_0_readings C hX12_isReading_0_X12 hK hP mX12_isReading_0_1 dX12_isReading_6 ?_
    refine lv_icmp_ge (tgt := 16) C.1 C.2.1 dX12_isReading_9 (by decide) (fun c9 => ?_) (fun c9 => ?_)
    · rw [if_pos c9] at h
      refine lv_iconst (v := 0) C.1 C.2.1 dX12_isReading_16 (by decide) ?_
      obtain ⟨hg2, h⟩ := gd_some h
      cases h
      exact rt_z hg2 C hP hS dX12_isReading_17
    · rw [if_neg c9] at h
      refine lv_iconst (v := 1) C.1 C.2.1 dX12_isReading_12 (by decide) ?_
      refine lv_goto (tgt := 17) C.1 C.2.1 dX12_isReading_13 (by decide) ?_
      obtain ⟨hg3, h⟩ := gd_some h
      cases h
      exact rt_z hg3 C hP hS dX12_isReading_17
theorem metX12_isReading_0 (l : Launch) (D : va_G) (cy : Nat → ClassId) (ad st : Nat → Nat) (hJ : JM ad) (sz : Nat) (x1 : Int32) {u : SX} {r : Int32} {u' : SX} (h : fX12_isReading_0 x1 u = some (r, u')) : Met l yX12_isReading wsX12_isReading rmX12_isReading_0 (va_Pc [.ref (ad 0), .int x1] (Px D [(cy 0, .int), (cy 1, .long), (cy 2, .boolean), (cy 3, .byte), (cy 4, .object "HissHorn$Text")] st (VM cy ad st) sz u)) (Qi D (VM cy ad st) (AM ad) sz r u') 0 0 (Ax (AM ad) sz) := by
  refine Met.ofW (cc := cX12_isReading) (maxL := 2) (ret := (some .boolean)) (by decide) rfl ?_
  intro p e s m args below meth c s₁ B hml hv
  obtain ⟨rfl, hsz, hP, hK⟩ := hv
  subst hsz
  have C : Cx RX12 cX12_isReading 2 (some .boolean) wsX12_isReading p s m _ meth c := ⟨B.exec, B.bytes, hml, B.returns, findClass_of_methodNamed B.named, atoms_spec (ws := wsX12_isReading) B.pre, B.notSynchronized⟩
  have hl := lv_entry ([.ref (ad 0), .int x1]) (n := 2) (Nat.le_of_ble_eq_true rfl)
  rw [lg_entry_eq]
  exact wX12_isReading_0 C hK hJ x1 h hP va_S.rf hl

theorem dX12_read_0 : decode cX12_read 0 = .ok (.aload_n 0, 1) := by decide +kernel
theorem dX12_read_1 : decode cX12_read 1 = .ok (.iconst 0, 1) := by decide +kernel
theorem dX12_read_2 : decode cX12_read 2 = .ok (.putfield 151, 3) := by decide +kernel
theorem dX12_read_5 : decode cX12_read 5 = .ok (.aload_n 0, 1) := by decide +kernel
theorem dX12_read_6 : decode cX12_read 6 = .ok (.getfield 335, 3) := by decide +kernel
theorem dX12_read_9 : decode cX12_read 9 = .ok (.bipush 80, 2) := by decide +kernel
theorem dX12_read_11 : decode cX12_read 11 = .ok (.if_icmp .eq 30, 3) := by decide +kernel
theorem dX12_read_41 : decode cX12_read 41 = .ok (.iconst (-1), 1) := by decide +kernel
theorem dX12_read_42 : decode cX12_read 42 = .ok (.ireturn, 1) := by decide +kernel
theorem dX12_read_14 : decode cX12_read 14 = .ok (.iload_n 1, 1) := by decide +kernel
theorem dX12_read_15 : decode cX12_read 15 = .ok (.iload_n 2, 1) := by decide +kernel
theorem dX12_read_16 : decode cX12_read 16 = .ok (.iload_n 3, 1) := by decide +kernel
theorem dX12_read_17 : decode cX12_read 17 = .ok (.iload 4, 2) := by decide +kernel
theorem dX12_read_19 : decode cX12_read 19 = .ok (.iload 5, 2) := by decide +kernel
set_option maxRecDepth 20000 in
theorem ggX12_read_X12_isAim : GoodIn wsX12_read wsX12_isAim := goodIn_r _ [12, 13, 14, 11, 15] (by decide +kernel) (by decide +kernel)
set_option maxRecDepth 20000 in
theorem gX12_read_X12_isAim : GoodIn wsX12_read (va_wsS RX12 278 yX12_isAim wsX12_isAim) := goodIn_app (goodIn_of _ (by decide +kernel)) ggX12_read_X12_isAim
theorem dX12_read_21 : decode cX12_read 21 = .ok (.invokestatic 278, 3) := by decide +kernel
theorem dX12_read_24 : decode cX12_read 24 = .ok (.ifCond .eq 17, 3) := by decide +kernel
theorem dX12_read_27 : decode cX12_read 27 = .ok (.iload 6, 2) := by decide +kernel
theorem dX12_read_29 : decode cX12_read 29 = .ok (.ldc_w 338, 3) := by decide +kernel
theorem dX12_read_32 : decode cX12_read 32 = .ok (.ldc_w 339, 3) := by decide +kernel
set_option maxRecDepth 20000 in
theorem ggX12_read_X12_isIn : GoodIn wsX12_read wsX12_isIn := goodIn_r _ [15] (by decide +kernel) (by decide +kernel)
set_option maxRecDepth 20000 in
theorem gX12_read_X12_isIn : GoodIn wsX12_read (va_wsS RX12 155 yX12_isIn wsX12_isIn) := goodIn_app (goodIn_of _ (by decide +kernel)) ggX12_read_X12_isIn
theorem dX12_read_35 : decode cX12_read 35 = .ok (.invokestatic 155, 3) := by decide +kernel
theorem dX12_read_38 : decode cX12_read 38 = .ok (.ifCond .ne 5, 3) := by decide +kernel
theorem dX12_read_43 : decode cX12_read 43 = .ok (.aload_n 0, 1) := by decide +kernel
theorem dX12_read_44 : decode cX12_read 44 = .ok (.getfield 74, 3) := by decide +kernel
theorem dX12_read_47 : decode cX12_read 47 = .ok (.iconst 5, 1) := by decide +kernel
theorem dX12_read_48 : decode cX12_read 48 = .ok (.aload_n 0, 1) := by decide +kernel
theorem dX12_read_49 : decode cX12_read 49 = .ok (.getfield 335, 3) := by decide +kernel
theorem dX12_read_52 : decode cX12_read 52 = .ok (.imul, 1) := by decide +kernel
theorem dX12_read_53 : decode cX12_read 53 = .ok (.iload_n 1, 1) := by decide +kernel
theorem dX12_read_54 : decode cX12_read 54 = .ok (.iastore, 1) := by decide +kernel
theorem dX12_read_55 : decode cX12_read 55 = .ok (.aload_n 0, 1) := by decide +kernel
theorem dX12_read_56 : decode cX12_read 56 = .ok (.getfield 74, 3) := by decide +kernel
theorem dX12_read_59 : decode cX12_read 59 = .ok (.iconst 5, 1) := by decide +kernel
theorem dX12_read_60 : decode cX12_read 60 = .ok (.aload_n 0, 1) := by decide +kernel
theorem dX12_read_61 : decode cX12_read 61 = .ok (.getfield 335, 3) := by decide +kernel
theorem dX12_read_64 : decode cX12_read 64 = .ok (.imul, 1) := by decide +kernel
theorem dX12_read_65 : decode cX12_read 65 = .ok (.iconst 1, 1) := by decide +kernel
theorem dX12_read_66 : decode cX12_read 66 = .ok (.iadd, 1) := by decide +kernel
theorem dX12_read_67 : decode cX12_read 67 = .ok (.iload_n 2, 1) := by decide +kernel
theorem dX12_read_68 : decode cX12_read 68 = .ok (.iastore, 1) := by decide +kernel
theorem dX12_read_69 : decode cX12_read 69 = .ok (.aload_n 0, 1) := by decide +kernel
theorem dX12_read_70 : decode cX12_read 70 = .ok (.getfield 74, 3) := by decide +kernel
theorem dX12_read_73 : decode cX12_read 73 = .ok (.iconst 5, 1) := by decide +kernel
theorem dX12_read_74 : decode cX12_read 74 = .ok (.aload_n 0, 1) := by decide +kernel
theorem dX12_read_75 : decode cX12_read 75 = .ok (.getfield 335, 3) := by decide +kernel
theorem dX12_read_78 : decode cX12_read 78 = .ok (.imul, 1) := by decide +kernel
theorem dX12_read_79 : decode cX12_read 79 = .ok (.iconst 2, 1) := by decide +kernel
theorem dX12_read_80 : decode cX12_read 80 = .ok (.iadd, 1) := by decide +kernel
theorem dX12_read_81 : decode cX12_read 81 = .ok (.iload_n 3, 1) := by decide +kernel
theorem dX12_read_82 : decode cX12_read 82 = .ok (.iastore, 1) := by decide +kernel
theorem dX12_read_83 : decode cX12_read 83 = .ok (.aload_n 0, 1) := by decide +kernel
theorem dX12_read_84 : decode cX12_read 84 = .ok (.getfield 74, 3) := by decide +kernel
theorem dX12_read_87 : decode cX12_read 87 = .ok (.iconst 5, 1) := by decide +kernel
theorem dX12_read_88 : decode cX12_read 88 = .ok (.aload_n 0, 1) := by decide +kernel
theorem dX12_read_89 : decode cX12_read 89 = .ok (.getfield 335, 3) := by decide +kernel
theorem dX12_read_92 : decode cX12_read 92 = .ok (.imul, 1) := by decide +kernel
theorem dX12_read_93 : decode cX12_read 93 = .ok (.iconst 3, 1) := by decide +kernel
theorem dX12_read_94 : decode cX12_read 94 = .ok (.iadd, 1) := by decide +kernel
theorem dX12_read_95 : decode cX12_read 95 = .ok (.iload 4, 2) := by decide +kernel
theorem dX12_read_97 : decode cX12_read 97 = .ok (.iastore, 1) := by decide +kernel
theorem dX12_read_98 : decode cX12_read 98 = .ok (.aload_n 0, 1) := by decide +kernel
theorem dX12_read_99 : decode cX12_read 99 = .ok (.getfield 74, 3) := by decide +kernel
theorem dX12_read_102 : decode cX12_read 102 = .ok (.iconst 5, 1) := by decide +kernel
theorem dX12_read_103 : decode cX12_read 103 = .ok (.aload_n 0, 1) := by decide +kernel
theorem dX12_read_104 : decode cX12_read 104 = .ok (.getfield 335, 3) := by decide +kernel
theorem dX12_read_107 : decode cX12_read 107 = .ok (.imul, 1) := by decide +kernel
theorem dX12_read_108 : decode cX12_read 108 = .ok (.iconst 4, 1) := by decide +kernel
theorem dX12_read_109 : decode cX12_read 109 = .ok (.iadd, 1) := by decide +kernel
theorem dX12_read_110 : decode cX12_read 110 = .ok (.iload 5, 2) := by decide +kernel
theorem dX12_read_112 : decode cX12_read 112 = .ok (.iastore, 1) := by decide +kernel
theorem dX12_read_113 : decode cX12_read 113 = .ok (.aload_n 0, 1) := by decide +kernel
theorem dX12_read_114 : decode cX12_read 114 = .ok (.getfield 77, 3) := by decide +kernel
theorem dX12_read_117 : decode cX12_read 117 = .ok (.aload_n 0, 1) := by decide +kernel
theorem dX12_read_118 : decode cX12_read 118 = .ok (.getfield 335, 3) := by decide +kernel
theorem dX12_read_121 : decode cX12_read 121 = .ok (.iload 6, 2) := by decide +kernel
theorem dX12_read_123 : decode cX12_read 123 = .ok (.iastore, 1) := by decide +kernel
theorem dX12_read_124 : decode cX12_read 124 = .ok (.aload_n 0, 1) := by decide +kernel
theorem dX12_read_125 : decode cX12_read 125 = .ok (.getfield 80, 3) := by decide +kernel
theorem dX12_read_128 : decode cX12_read 128 = .ok (.aload_n 0, 1) := by decide +kernel
theorem dX12_read_129 : decode cX12_read 129 = .ok (.getfield 335, 3) := by decide +kernel
theorem dX12_read_132 : decode cX12_read 132 = .ok (.aload_n 0, 1) := by decide +kernel
theorem dX12_read_133 : decode cX12_read 133 = .ok (.getfield 159, 3) := by decide +kernel
theorem dX12_read_136 : decode cX12_read 136 = .ok (.iastore, 1) := by decide +kernel
theorem dX12_read_137 : decode cX12_read 137 = .ok (.aload_n 0, 1) := by decide +kernel
theorem dX12_read_138 : decode cX12_read 138 = .ok (.dup, 1) := by decide +kernel
theorem dX12_read_139 : decode cX12_read 139 = .ok (.getfield 335, 3) := by decide +kernel
theorem dX12_read_142 : decode cX12_read 142 = .ok (.iconst 1, 1) := by decide +kernel
theorem dX12_read_143 : decode cX12_read 143 = .ok (.iadd, 1) := by decide +kernel
theorem dX12_read_144 : decode cX12_read 144 = .ok (.putfield 335, 3) := by decide +kernel
theorem dX12_read_147 : decode cX12_read 147 = .ok (.aload_n 0, 1) := by decide +kernel
theorem dX12_read_148 : decode cX12_read 148 = .ok (.getfield 335, 3) := by decide +kernel
theorem dX12_read_151 : decode cX12_read 151 = .ok (.iconst 1, 1) := by decide +kernel
theorem dX12_read_152 : decode cX12_read 152 = .ok (.isub, 1) := by decide +kernel
theorem dX12_read_153 : decode cX12_read 153 = .ok (.ireturn, 1) := by decide +kernel
/-- HissHornModel.read(IIIIII)I of cell 0 -/
def rmX12_read_0 : Room := { frames := 2, cells := 0, slots := 0, locals := 46 }
theorem hX12_read_0_X12 : ∀ w ∈ u_ws RX12 TX12 69, w ∈ wsX12_read := fun w h => (List.mem_cons_of_mem _ (List.mem_append_right _ h))
theorem mX12_read_0_1 : Cond.fieldLink RX12 151 "HissHornModel" "thrown" "I" ∈ wsX12_read := (List.mem_cons_of_mem _ (List.mem_append_left _ (List.mem_of_getElem? (i := 0) rfl)))
theorem mX12_read_0_2 : Cond.fieldLink RX12 335 "HissHornModel" "readings" "I" ∈ wsX12_read := (List.mem_cons_of_mem _ (List.mem_append_left _ (List.mem_of_getElem? (i := 1) rfl)))
theorem mX12_read_0_3 : Cond.constant RX12 338 (-100000) ∈ wsX12_read := (List.mem_cons_of_mem _ (List.mem_append_left _ (List.mem_of_getElem? (i := 2) rfl)))
theorem mX12_read_0_4 : Cond.constant RX12 339 (100000) ∈ wsX12_read := (List.mem_cons_of_mem _ (List.mem_append_left _ (List.mem_of_getElem? (i := 3) rfl)))
theorem mX12_read_0_5 : Cond.fieldLink RX12 74 "HissHornModel" "aims" "[I" ∈ wsX12_read := (List.mem_cons_of_mem _ (List.mem_append_left _ (List.mem_of_getElem? (i := 4) rfl)))
theorem mX12_read_0_6 : Cond.fieldLink RX12 77 "HissHornModel" "number" "[I" ∈ wsX12_read := (List.mem_cons_of_mem _ (List.mem_append_left _ (List.mem_of_getElem? (i := 5) rfl)))
theorem mX12_read_0_7 : Cond.fieldLink RX12 80 "HissHornModel" "readDay" "[I" ∈ wsX12_read := (List.mem_cons_of_mem _ (List.mem_append_left _ (List.mem_of_getElem? (i := 6) rfl)))
theorem mX12_read_0_8 : Cond.fieldLink RX12 159 "HissHornModel" "now" "I" ∈ wsX12_read := (List.mem_cons_of_mem _ (List.mem_append_left _ (List.mem_of_getElem? (i := 7) rfl)))
def fX12_read_0 (x1 : Int32) (x2 : Int32) (x3 : Int32) (x4 : Int32) (x5 : Int32) (x6 : Int32) (u : SX) : Option (Int32 × SX) := (lt (sI u 0 0) fun u1 => (if (u1.1 15) = 80 then (some ((-1), u1)) else ((fX12_isAim x1 x2 x3 x4 x5).bind fun r3 => (if r3 = 0 then (some ((-1), u1)) else ((fX12_isIn x6 (-100000) 100000).bind fun r6 => (if r6 = 0 then (some ((-1), u1)) else (gd (inb (5 * (u1.1 15)) 400) (lt (sA u1 19 (upd (u1.2.1 19) (5 * (u1.1 15)).toNatClampNeg x1)) fun u10 => (gd (inb ((5 * (u10.1 15)) + 1) 400) (lt (sA u10 19 (upd (u10.2.1 19) ((5 * (u10.1 15)) + 1).toNatClampNeg x2)) fun u13 => (gd (inb ((5 * (u13.1 15)) + 2) 400) (lt (sA u13 19 (upd (u13.2.1 19) ((5 * (u13.1 15)) + 2).toNatClampNeg x3)) fun u16 => (gd (inb ((5 * (u16.1 15)) + 3) 400) (lt (sA u16 19 (upd (u16.2.1 19) ((5 * (u16.1 15)) + 3).toNatClampNeg x4)) fun u19 => (gd (inb ((5 * (u19.1 15)) + 4) 400) (lt (sA u19 19 (upd (u19.2.1 19) ((5 * (u19.1 15)) + 4).toNatClampNeg x5)) fun u22 => (gd (inb (u22.1 15) 80) (lt (sA u22 20 (upd (u22.2.1 20) (u22.1 15).toNatClampNeg x6)) fun u25 => (gd (inb (u25.1 15) 80) (lt (sA u25 21 (upd (u25.2.1 21) (u25.1 15).toNatClampNeg (u25.1 1))) fun u28 => (lt (sI u28 15 ((u28.1 15) + 1)) fun u30 => (some ((u30.1 15) - 1, u30)))))))))))))))))))))))
set_option maxHeartbeats 4000000 in
set_option maxRecDepth 100000 in
theorem wX12_read_0 {p : Program} {l : Launch} {e : Env} {s : State} {m : MethodId} {args : Array Value} {below : List Frame} {meth : Method} {c : Code} {D : va_G} {cy : Nat → ClassId} {ad st : Nat → Nat} (C : Cx RX12 cX12_read 7 (some .int) wsX12_read p s m args meth c) (hK : Kx D [(cy 0, .int), (cy 1, .long), (cy 2, .boolean), (cy 3, .byte), (cy 4, .object "HissHorn$Text")] st s) (hJ : JM ad) (x1 : Int32) (x2 : Int32) (x3 : Int32) (x4 : Int32) (x5 : Int32) (x6 : Int32) {u : SX} {r : Int32} {u' : SX} {H : Heap} {locs : List Loc} {ls : Array Slot} (h : fX12_read_0 x1 x2 x3 x4 x5 x6 u = some (r, u')) (hP : va_P D vwCl (VM cy ad st u) H) (hS : va_S (Ax (AM ad) s.heap.size) s.heap H locs) (hl : lv_has ls 7 [(0, .ref (ad 0)), (1, .int x1), (2, .int x2), (3, .int x3), (4, .int x4), (5, .int x5), (6, .int x6)]) : W p l e rmX12_read_0 s m args below meth c H locs 0 0 (MQ below (Qi D (VM cy ad st) (AM ad) s.heap.size r u') args s 0 0 (Ax (AM ad) s.heap.size)) (F0 m 0 ls []) := by
  unfold fX12_read_0 at h
  refine lv_aload_n C.1 C.2.1 dX12_read_0 rfl (lv_at hl 0 rfl) ?_
  refine lv_iconst (v := 0) C.1 C.2.1 dX12_read_1 (by decide) ?_
  refine pM_0_thrown C hX12_read_0_X12 hK hP hJ hS mX12_read_0_1 dX12_read_2 (fun H locs hP hS => ?_)
  obtain ⟨u1, hu2, h⟩ := lt_some h
  rw [← hu2] at hP
  refine lv_aload_n C.1 C.2.1 dX12_read_5 rfl (lv_at hl 0 rfl) ?_
  refine gM_0_readings C hX12_read_0_X12 hK hP mX12_read_0_2 dX12_read_6 ?_
  refine lv_bipush (v := 80) C.1 C.2.1 dX12_read_9 (by decide) ?_
  refine lv_icmp_eq (tgt := 41) C.1 C.2.1 dX12_read_11 (by decide) (fun c11 => ?_) (fun c11 => ?_)
  · rw [if_pos c11] at h
    refine lv_iconst (v := (-1)) C.1 C.2.1 dX12_read_41 (by decide) ?_
    cases h
    exact rt_i C hP hS dX12_read_42
  · rw [if_neg c11] at h
    refine lv_iload_n C.1 C.2.1 dX12_read_14 rfl (lv_at hl 1 rfl) ?_
    refine lv_iload_n C.1 C.2.1 dX12_read_15 rfl (lv_at hl 2 rfl) ?_
    refine lv_iload_n C.1 C.2.1 dX12_read_16 rfl (lv_at hl 3 rfl) ?_
    refine lv_iload C.1 C.2.1 dX12_read_17 (lv_at hl 4 rfl) ?_
    refine lv_iload C.1 C.2.1 dX12_read_19 (lv_at hl 5 rfl) ?_
    obtain ⟨r3, hc5, h⟩ := bd_some h
    refine cs_i (As := [.int x1, .int x2, .int x3, .int x4, .int x5]) (rest := []) C hK hP hS (metX12_isAim l D cy st _ x1 x2 x3 x4 x5 hc5) (va_cwS 5 C.2.2.2.2.2.1 gX12_read_X12_isAim rfl rfl rfl (by decide +kernel) ⟨(Nat.le_of_ble_eq_true rfl), (Nat.le_of_ble_eq_true rfl)⟩) rfl hl.1 rfl (Nat.le_of_ble_eq_true rfl) dX12_read_21 ⟨Nat.zero_le _, Nat.zero_le _⟩ (fun H locs hP hS => ?_)
    refine lv_if_eq (tgt := 41) C.1 C.2.1 dX12_read_24 (by decide) (fun c24 => ?_) (fun c24 => ?_)
    · rw [if_pos c24] at h
      refine lv_iconst (v := (-1)) C.1 C.2.1 dX12_read_41 (by decide) ?_
      cases h
      exact rt_i C hP hS dX12_read_42
    · rw [if_neg c24] at h
      refine lv_iload C.1 C.2.1 dX12_read_27 (lv_at hl 6 rfl) ?_
      refine lv_ldcw C.1 C.2.1 C.2.2.2.2.1 (C.2.2.2.2.2.1 _ mX12_read_0_3) dX12_read_29 ?_
      refine lv_ldcw C.1 C.2.1 C.2.2.2.2.1 (C.2.2.2.2.2.1 _ mX12_read_0_4) dX12_read_32 ?_
      obtain ⟨r6, hc8, h⟩ := bd_some h
      refine cs_i (As := [.int x6, .int (-100000), .int 100000]) (rest := []) C hK hP hS (metX12_isIn l D cy st _ x6 (-100000) 100000 hc8) (va_cwS 3 C.2.2.2.2.2.1 gX12_read_X12_isIn rfl rfl rfl (by decide +kernel) ⟨(Nat.le_of_ble_eq_true rfl), (Nat.le_of_ble_eq_true rfl)⟩) rfl hl.1 rfl (Nat.le_of_ble_eq_true rfl) dX12_read_35 ⟨Nat.zero_le _, Nat.zero_le _⟩ (fun H locs hP hS => ?_)
      refine lv_if_ne (tgt := 43) C.1 C.2.1 dX12_read_38 (by decide) (fun c38 => ?_) (fun c38 => ?_)
      · rw [if_neg c38] at h
        refine lv_aload_n C.1 C.2.1 dX12_read_43 rfl (lv_at hl 0 rfl) ?_
        refine gM_0_aims C hX12_read_0_X12 hK hP mX12_read_0_5 dX12_read_44 ?_
        refine lv_iconst (v := 5) C.1 C.2.1 dX12_read_47 (by decide) ?_
        refine lv_aload_n C.1 C.2.1 dX12_read_48 rfl (lv_at hl 0 rfl) ?_
        refine gM_0_readings C hX12_read_0_X12 hK hP mX12_read_0_2 dX12_read_49 ?_
        refine lv_imul C.1 C.2.1 dX12_read_52 ?_
        refine lv_iload_n C.1 C.2.1 dX12_read_53 rfl (lv_at hl 1 rfl) ?_
        obtain ⟨hg9, h⟩ := gd_some h
        refine tM_19 C hK hP hJ hS hg9 dX12_read_54 (fun H locs hP hS => ?_)
        obtain ⟨u10, hu11, h⟩ := lt_some h
        rw [← hu11] at hP
        refine lv_aload_n C.1 C.2.1 dX12_read_55 rfl (lv_at hl 0 rfl) ?_
        refine gM_0_aims C hX12_read_0_X12 hK hP mX12_read_0_5 dX12_read_56 ?_
        refine lv_iconst (v := 5) C.1 C.2.1 dX12_read_59 (by decide) ?_
        refine lv_aload_n C.1 C.2.1 dX12_read_60 rfl (lv_at hl 0 rfl) ?_
        refine gM_0_readings C hX12_read_0_X12 hK hP mX12_read_0_2 dX12_read_61 ?_
        refine lv_imul C.1 C.2.1 dX12_read_64 ?_
        refine lv_iconst (v := 1) C.1 C.2.1 dX12_read_65 (by decide) ?_
        refine lv_iadd C.1 C.2.1 dX12_read_66 ?_
        refine lv_iload_n C.1 C.2.1 dX12_read_67 rfl (lv_at hl 2 rfl) ?_
        obtain ⟨hg12, h⟩ := gd_some h
        refine tM_19 C hK hP hJ hS hg12 dX12_read_68 (fun H locs hP hS => ?_)
        obtain ⟨u13, hu14, h⟩ := lt_some h
        rw [← hu14] at hP
        refine lv_aload_n C.1 C.2.1 dX12_read_69 rfl (lv_at hl 0 rfl) ?_
        refine gM_0_aims C hX12_read_0_X12 hK hP mX12_read_0_5 dX12_read_70 ?_
        refine lv_iconst (v := 5) C.1 C.2.1 dX12_read_73 (by decide) ?_
        refine lv_aload_n C.1 C.2.1 dX12_read_74 rfl (lv_at hl 0 rfl) ?_
        refine gM_0_readings C hX12_read_0_X12 hK hP mX12_read_0_2 dX12_read_75 ?_
        refine lv_imul C.1 C.2.1 dX12_read_78 ?_
        refine lv_iconst (v := 2) C.1 C.2.1 dX12_read_79 (by decide) ?_
        refine lv_iadd C.1 C.2.1 dX12_read_80 ?_
        refine lv_iload_n C.1 C.2.1 dX12_read_81 rfl (lv_at hl 3 rfl) ?_
        obtain ⟨hg15, h⟩ := gd_some h
        refine tM_19 C hK hP hJ hS hg15 dX12_read_82 (fun H locs hP hS => ?_)
        obtain ⟨u16, hu17, h⟩ := lt_some h
        rw [← hu17] at hP
        refine lv_aload_n C.1 C.2.1 dX12_read_83 rfl (lv_at hl 0 rfl) ?_
        refine gM_0_aims C hX12_read_0_X12 hK hP mX12_read_0_5 dX12_read_84 ?_
        refine lv_iconst (v := 5) C.1 C.2.1 dX12_read_87 (by decide) ?_
        refine lv_aload_n C.1 C.2.1 dX12_read_88 rfl (lv_at hl 0 rfl) ?_
        refine gM_0_readings C hX12_read_0_X12 hK hP mX12_read_0_2 dX12_read_89 ?_
        refine lv_imul C.1 C.2.1 dX12_read_92 ?_
        refine lv_iconst (v := 3) C.1 C.2.1 dX12_read_93 (by decide) ?_
        refine lv_iadd C.1 C.2.1 dX12_read_94 ?_
        refine lv_iload C.1 C.2.1 dX12_read_95 (lv_at hl 4 rfl) ?_
        obtain ⟨hg18, h⟩ := gd_some h
        refine tM_19 C hK hP hJ hS hg18 dX12_read_97 (fun H locs hP hS => ?_)
        obtain ⟨u19, hu20, h⟩ := lt_some h
        rw [← hu20] at hP
        refine lv_aload_n C.1 C.2.1 dX12_read_98 rfl (lv_at hl 0 rfl) ?_
        refine gM_0_aims C hX12_read_0_X12 hK hP mX12_read_0_5 dX12_read_99 ?_
        refine lv_iconst (v := 5) C.1 C.2.1 dX12_read_102 (by decide) ?_
        refine lv_aload_n C.1 C.2.1 dX12_read_103 rfl (lv_at hl 0 rfl) ?_
        refine gM_0_readings C hX12_read_0_X12 hK hP mX12_read_0_2 dX12_read_104 ?_
        refine lv_imul C.1 C.2.1 dX12_read_107 ?_
        refine lv_iconst (v := 4) C.1 C.2.1 dX12_read_108 (by decide) ?_
        refine lv_iadd C.1 C.2.1 dX12_read_109 ?_
        refine lv_iload C.1 C.2.1 dX12_read_110 (lv_at hl 5 rfl) ?_
        obtain ⟨hg21, h⟩ := gd_some h
        refine tM_19 C hK hP hJ hS hg21 dX12_read_112 (fun H locs hP hS => ?_)
        obtain ⟨u22, hu23, h⟩ := lt_some h
        rw [← hu23] at hP
        refine lv_aload_n C.1 C.2.1 dX12_read_113 rfl (lv_at hl 0 rfl) ?_
        refine gM_0_number C hX12_read_0_X12 hK hP mX12_read_0_6 dX12_read_114 ?_
        refine lv_aload_n C.1 C.2.1 dX12_read_117 rfl (lv_at hl 0 rfl) ?_
        refine gM_0_readings C hX12_read_0_X12 hK hP mX12_read_0_2 dX12_read_118 ?_
        refine lv_iload C.1 C.2.1 dX12_read_121 (lv_at hl 6 rfl) ?_
        obtain ⟨hg24, h⟩ := gd_some h
        refine tM_20 C hK hP hJ hS hg24 dX12_read_123 (fun H locs hP hS => ?_)
        obtain ⟨u25, hu26, h⟩ := lt_some h
        rw [← hu26] at hP
        refine lv_aload_n C.1 C.2.1 dX12_read_124 rfl (lv_at hl 0 rfl) ?_
        refine gM_0_readDay C hX12_read_0_X12 hK hP mX12_read_0_7 dX12_read_125 ?_
        refine lv_aload_n C.1 C.2.1 dX12_read_128 rfl (lv_at hl 0 rfl) ?_
        refine gM_0_readings C hX12_read_0_X12 hK hP mX12_read_0_2 dX12_read_129 ?_
        refine lv_aload_n C.1 C.2.1 dX12_read_132 rfl (lv_at hl 0 rfl) ?_
        refine gM_0_now C hX12_read_0_X12 hK hP mX12_read_0_8 dX12_read_133 ?_
        obtain ⟨hg27, h⟩ := gd_some h
        refine tM_21 C hK hP hJ hS hg27 dX12_read_136 (fun H locs hP hS => ?_)
        obtain ⟨u28, hu29, h⟩ := lt_some h
        rw [← hu29] at hP
        refine lv_aload_n C.1 C.2.1 dX12_read_137 rfl (lv_at hl 0 rfl) ?_
        refine lv_dup C.1 C.2.1 dX12_read_138 rfl ?_
        refine gM_0_readings C hX12_read_0_X12 hK hP mX12_read_0_2 dX12_read_139 ?_
        refine lv_iconst (v := 1) C.1 C.2.1 dX12_read_142 (by decide) ?_
        refine lv_iadd C.1 C.2.1 dX12_read_143 ?_
        refine pM_0_readings C hX12_read_0_X12 hK hP hJ hS mX12_read_0_2 dX12_read_144 (fun H locs hP hS => ?_)
        obtain ⟨u30, hu31, h⟩ := lt_some h
        rw [← hu31] at hP
        refine lv_aload_n C.1 C.2.1 dX12_read_147 rfl (lv_at hl 0 rfl) ?_
        refine gM_0_readings C hX12_read_0_X12 hK hP mX12_read_0_2 dX12_read_148 ?_
        refine lv_iconst (v := 1) C.1 C.2.1 dX12_read_151 (by decide) ?_
        refine lv_isub C.1 C.2.1 dX12_read_152 ?_
        cases h
        exact rt_i C hP hS dX12_read_153
      · rw [if_pos c38] at h
        refine lv_iconst (v := (-1)) C.1 C.2.1 dX12_read_41 (by decide) ?_
        cases h
        exact rt_i C hP hS dX12_read_42
theorem metX12_read_0 (l : Launch) (D : va_G) (cy : Nat → ClassId) (ad st : Nat → Nat) (hJ : JM ad) (sz : Nat) (x1 : Int32) (x2 : Int32) (x3 : Int32) (x4 : Int32) (x5 : Int32) (x6 : Int32) {u : SX} {r : Int32} {u' : SX} (h : fX12_read_0 x1 x2 x3 x4 x5 x6 u = some (r, u')) : Met l yX12_read wsX12_read rmX12_read_0 (va_Pc [.ref (ad 0), .int x1, .int x2, .int x3, .int x4, .int x5, .int x6] (Px D [(cy 0, .int), (cy 1, .long), (cy 2, .boolean), (cy 3, .byte), (cy 4, .object "HissHorn$Text")] st (VM cy ad st) sz u)) (Qi D (VM cy ad st) (AM ad) sz r u') 0 0 (Ax (AM ad) sz) := by
  refine Met.ofW (cc := cX12_read) (maxL := 7) (ret := (some .int)) (by decide) rfl ?_
  intro p e s m args below meth c s₁ B hml hv
  obtain ⟨rfl, hsz, hP, hK⟩ := hv
  subst hsz
  have C : Cx RX12 cX12_read 7 (some .int) wsX12_read p s m _ meth c := ⟨B.exec, B.bytes, hml, B.returns, findClass_of_methodNamed B.named, atoms_spec (ws := wsX12_read) B.pre, B.notSynchronized⟩
  have hl := lv_entry ([.ref (ad 0), .int x1, .int x2, .int x3, .int x4, .int x5, .int x6]) (n := 7) (Nat.le_of_ble_eq_true rfl)
  rw [lg_entry_eq]
  exact wX12_read_0 C hK hJ x1 x2 x3 x4 x5 x6 h hP va_S.rf hl

theorem dX12_aimOf_0 : decode cX12_aimOf 0 = .ok (.iload_n 2, 1) := by decide +kernel
theorem dX12_aimOf_1 : decode cX12_aimOf 1 = .ok (.iconst 3, 1) := by decide +kernel
theorem dX12_aimOf_2 : decode cX12_aimOf 2 = .ok (.if_icmp .ne 15, 3) := by decide +kernel
theorem dX12_aimOf_17 : decode cX12_aimOf 17 = .ok (.aload_n 0, 1) := by decide +kernel
theorem dX12_aimOf_18 : decode cX12_aimOf 18 = .ok (.getfield 74, 3) := by decide +kernel
theorem dX12_aimOf_21 : decode cX12_aimOf 21 = .ok (.iconst 5, 1) := by decide +kernel
theorem dX12_aimOf_22 : decode cX12_aimOf 22 = .ok (.iload_n 1, 1) := by decide +kernel
theorem dX12_aimOf_23 : decode cX12_aimOf 23 = .ok (.imul, 1) := by decide +kernel
theorem dX12_aimOf_24 : decode cX12_aimOf 24 = .ok (.iload_n 2, 1) := by decide +kernel
theorem dX12_aimOf_25 : decode cX12_aimOf 25 = .ok (.iconst 3, 1) := by decide +kernel
theorem dX12_aimOf_26 : decode cX12_aimOf 26 = .ok (.if_icmp .ge 7, 3) := by decide +kernel
theorem dX12_aimOf_33 : decode cX12_aimOf 33 = .ok (.iload_n 2, 1) := by decide +kernel
theorem dX12_aimOf_34 : decode cX12_aimOf 34 = .ok (.iconst 1, 1) := by decide +kernel
theorem dX12_aimOf_35 : decode cX12_aimOf 35 = .ok (.isub, 1) := by decide +kernel
theorem dX12_aimOf_36 : decode cX12_aimOf 36 = .ok (.iadd, 1) := by decide +kernel
theorem dX12_aimOf_37 : decode cX12_aimOf 37 = .ok (.iaload, 1) := by decide +kernel
theorem dX12_aimOf_38 : decode cX12_aimOf 38 = .ok (.ireturn, 1) := by decide +kernel
theorem dX12_aimOf_29 : decode cX12_aimOf 29 = .ok (.iload_n 2, 1) := by decide +kernel
theorem dX12_aimOf_30 : decode cX12_aimOf 30 = .ok (.goto 6, 3) := by decide +kernel
theorem dX12_aimOf_5 : decode cX12_aimOf 5 = .ok (.aload_n 0, 1) := by decide +kernel
theorem dX12_aimOf_6 : decode cX12_aimOf 6 = .ok (.getfield 80, 3) := by decide +kernel
theorem dX12_aimOf_9 : decode cX12_aimOf 9 = .ok (.iload_n 1, 1) := by decide +kernel
theorem dX12_aimOf_10 : decode cX12_aimOf 10 = .ok (.iaload, 1) := by decide +kernel
set_option maxRecDepth 20000 in
theorem ggX12_aimOf_X12_season : GoodIn wsX12_aimOf wsX12_season := goodIn_r _ [6] (by decide +kernel) (by decide +kernel)
set_option maxRecDepth 20000 in
theorem gX12_aimOf_X12_season : GoodIn wsX12_aimOf (va_wsS RX12 316 yX12_season wsX12_season) := goodIn_app (goodIn_of _ (by decide +kernel)) ggX12_aimOf_X12_season
theorem dX12_aimOf_11 : decode cX12_aimOf 11 = .ok (.invokestatic 316, 3) := by decide +kernel
theorem dX12_aimOf_14 : decode cX12_aimOf 14 = .ok (.goto 24, 3) := by decide +kernel
/-- HissHornModel.aimOf(II)I of cell 0 -/
def rmX12_aimOf_0 : Room := { frames := 1, cells := 0, slots := 0, locals := 20 }
theorem hX12_aimOf_0_X12 : ∀ w ∈ u_ws RX12 TX12 69, w ∈ wsX12_aimOf := fun w h => (List.mem_cons_of_mem _ (List.mem_append_right _ h))
theorem mX12_aimOf_0_1 : Cond.fieldLink RX12 74 "HissHornModel" "aims" "[I" ∈ wsX12_aimOf := (List.mem_cons_of_mem _ (List.mem_append_left _ (List.mem_of_getElem? (i := 1) rfl)))
theorem mX12_aimOf_0_2 : Cond.fieldLink RX12 80 "HissHornModel" "readDay" "[I" ∈ wsX12_aimOf := (List.mem_cons_of_mem _ (List.mem_append_left _ (List.mem_of_getElem? (i := 0) rfl)))
def fX12_aimOf_0 (x1 : Int32) (x2 : Int32) (u : SX) : Option (Int32 × SX) := (if x2 = 3 then (gd (inb x1 80) ((fX12_season (u.2.1 21 x1.toNatClampNeg)).bind fun r4 => (some (r4, u)))) else (if 3 ≤ x2 then (gd (inb ((5 * x1) + (x2 - 1)) 400) (some (u.2.1 19 ((5 * x1) + (x2 - 1)).toNatClampNeg, u))) else (gd (inb ((5 * x1) + x2) 400) (some (u.2.1 19 ((5 * x1) + x2).toNatClampNeg, u)))))
set_option maxHeartbeats 4000000 in
set_option maxRecDepth 100000 in
theorem wX12_aimOf_0 {p : Program} {l : Launch} {e : Env} {s : State} {m : MethodId} {args : Array Value} {below : List Frame} {meth : Method} {c : Code} {D : va_G} {cy : Nat → ClassId} {ad st : Nat → Nat} (C : Cx RX12 cX12_aimOf 3 (some .int) wsX12_aimOf p s m args meth c) (hK : Kx D [(cy 0, .int), (cy 1, .long), (cy 2, .boolean), (cy 3, .byte), (cy 4, .object "HissHorn$Text")] st s) (hJ : JM ad) (x1 : Int32) (x2 : Int32) {u : SX} {r : Int32} {u' : SX} {H : Heap} {locs : List Loc} {ls : Array Slot} (h : fX12_aimOf_0 x1 x2 u = some (r, u')) (hP : va_P D vwCl (VM cy ad st u) H) (hS : va_S (Ax (AM ad) s.heap.size) s.heap H locs) (hl : lv_has ls 3 [(0, .ref (ad 0)), (1, .int x1), (2, .int x2)]) : W p l e rmX12_aimOf_0 s m args below meth c H locs 0 0 (MQ below (Qi D (VM cy ad st) (AM ad) s.heap.size r u') args s 0 0 (Ax (AM ad) s.heap.size)) (F0 m 0 ls []) := by
  unfold fX12_aimOf_0 at h
  refine lv_iload_n C.1 C.2.1 dX12_aimOf_0 rfl (lv_at hl 2 rfl) ?_
  refine lv_iconst (v := 3) C.1 C.2.1 dX12_aimOf_1 (by decide) ?_
  refine lv_icmp_ne (tgt := 17) C.1 C.2.1 dX12_aimOf_2 (by decide) (fun c2 => ?_) (fun c2 => ?_)
  · rw [if_neg c2] at h
    refine lv_aload_n C.1 C.2.1 dX12_aimOf_17 rfl (lv_at hl 0 rfl) ?_
    refine gM_0_aims C hX12_aimOf_0_X12 hK hP mX12_aimOf_0_1 dX12_aimOf_18 ?_
    refine lv_iconst (v := 5) C.1 C.2.1 dX12_aimOf_21 (by decide) ?_
    refine lv_iload_n C.1 C.2.1 dX12_aimOf_22 rfl (lv_at hl 1 rfl) ?_
    refine lv_imul C.1 C.2.1 dX12_aimOf_23 ?_
    refine lv_iload_n C.1 C.2.1 dX12_aimOf_24 rfl (lv_at hl 2 rfl) ?_
    refine lv_iconst (v := 3) C.1 C.2.1 dX12_aimOf_25 (by decide) ?_
    refine lv_icmp_ge (tgt := 33) C.1 C.2.1 dX12_aimOf_26 (by decide) (fun c26 => ?_) (fun c26 => ?_)
    · rw [if_pos c26] at h
      refine lv_iload_n C.1 C.2.1 dX12_aimOf_33 rfl (lv_at hl 2 rfl) ?_
      refine lv_iconst (v := 1) C.1 C.2.1 dX12_aimOf_34 (by decide) ?_
      refine lv_isub C.1 C.2.1 dX12_aimOf_35 ?_
      refine lv_iadd C.1 C.2.1 dX12_aimOf_36 ?_
      obtain ⟨hg1, h⟩ := gd_some h
      refine lM_19 C hK hP hg1 dX12_aimOf_37 ?_
      cases h
      exact rt_i C hP hS dX12_aimOf_38
    · rw [if_neg c26] at h
      refine lv_iload_n C.1 C.2.1 dX12_aimOf_29 rfl (lv_at hl 2 rfl) ?_
      refine lv_goto (tgt := 36) C.1 C.2.1 dX12_aimOf_30 (by decide) ?_
      refine lv_iadd C.1 C.2.1 dX12_aimOf_36 ?_
      obtain ⟨hg2, h⟩ := gd_some h
      refine lM_19 C hK hP hg2 dX12_aimOf_37 ?_
      cases h
      exact rt_i C hP hS dX12_aimOf_38
  · rw [if_pos c2] at h
    refine lv_aload_n C.1 C.2.1 dX12_aimOf_5 rfl (lv_at hl 0 rfl) ?_
    refine gM_0_readDay C hX12_aimOf_0_X12 hK hP mX12_aimOf_0_2 dX12_aimOf_6 ?_
    refine lv_iload_n C.1 C.2.1 dX12_aimOf_9 rfl (lv_at hl 1 rfl) ?_
    obtain ⟨hg3, h⟩ := gd_some h
    refine lM_21 C hK hP hg3 dX12_aimOf_10 ?_
    obtain ⟨r4, hc6, h⟩ := bd_some h
    refine cs_i (As := [.int (u.2.1 21 x1.toNatClampNeg)]) (rest := []) C hK hP hS (metX12_season l D cy st _ (u.2.1 21 x1.toNatClampNeg) hc6) (va_cwS 1 C.2.2.2.2.2.1 gX12_aimOf_X12_season rfl rfl rfl (by decide +kernel) ⟨(Nat.le_of_ble_eq_true rfl), (Nat.le_of_ble_eq_true rfl)⟩) rfl hl.1 rfl (Nat.le_of_ble_eq_true rfl) dX12_aimOf_11 ⟨Nat.zero_le _, Nat.zero_le _⟩ (fun H locs hP hS => ?_)
    refine lv_goto (tgt := 38) C.1 C.2.1 dX12_aimOf_14 (by decide) ?_
    cases h
    exact rt_i C hP hS dX12_aimOf_38
theorem metX12_aimOf_0 (l : Launch) (D : va_G) (cy : Nat → ClassId) (ad st : Nat → Nat) (hJ : JM ad) (sz : Nat) (x1 : Int32) (x2 : Int32) {u : SX} {r : Int32} {u' : SX} (h : fX12_aimOf_0 x1 x2 u = some (r, u')) : Met l yX12_aimOf wsX12_aimOf rmX12_aimOf_0 (va_Pc [.ref (ad 0), .int x1, .int x2] (Px D [(cy 0, .int), (cy 1, .long), (cy 2, .boolean), (cy 3, .byte), (cy 4, .object "HissHorn$Text")] st (VM cy ad st) sz u)) (Qi D (VM cy ad st) (AM ad) sz r u') 0 0 (Ax (AM ad) sz) := by
  refine Met.ofW (cc := cX12_aimOf) (maxL := 3) (ret := (some .int)) (by decide) rfl ?_
  intro p e s m args below meth c s₁ B hml hv
  obtain ⟨rfl, hsz, hP, hK⟩ := hv
  subst hsz
  have C : Cx RX12 cX12_aimOf 3 (some .int) wsX12_aimOf p s m _ meth c := ⟨B.exec, B.bytes, hml, B.returns, findClass_of_methodNamed B.named, atoms_spec (ws := wsX12_aimOf) B.pre, B.notSynchronized⟩
  have hl := lv_entry ([.ref (ad 0), .int x1, .int x2]) (n := 3) (Nat.le_of_ble_eq_true rfl)
  rw [lg_entry_eq]
  exact wX12_aimOf_0 C hK hJ x1 x2 h hP va_S.rf hl
