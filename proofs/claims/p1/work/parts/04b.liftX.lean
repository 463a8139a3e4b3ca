theorem dX5_clause_76 : decode cX5_clause 76 = .ok (.aload_n 0, 1) := by decide +kernel
theorem dX5_clause_77 : decode cX5_clause 77 = .ok (.iconst 0, 1) := by decide +kernel
theorem dX5_clause_78 : decode cX5_clause 78 = .ok (.iload_n 2, 1) := by decide +kernel
set_option maxRecDepth 20000 in
theorem ggX5_clause_X5_condition : GoodIn wsX5_clause wsX5_condition := goodIn_r _ [128, 11, 12, 6, 129, 130, 131, 4, 21, 22, 23, 24, 25, 26, 7, 8, 9, 10, 13, 132, 125, 126, 127, 1, 2, 3, 5, 14, 15, 16, 17, 18, 19, 20, 27, 28, 29, 30, 31, 32, 33, 34, 35, 36, 37, 38, 39, 40, 41, 42, 43, 44, 45, 46, 47, 48, 49, 50, 51, 52, 53, 54, 55, 56, 57, 58, 59, 60, 61, 62, 63, 64, 65, 66, 67, 68, 69, 70, 71, 72, 73, 74, 75, 76, 77, 78, 79, 80, 81, 82, 83, 84, 85, 86, 87, 88, 89, 90, 91, 92, 93, 94, 95, 96, 97, 98, 99, 100, 101, 102, 103, 104, 105, 106, 107, 108, 109, 110, 111, 112, 113, 114, 115, 116, 117, 118, 119, 120, 121, 122, 123, 124, 133, 134, 135, 136, 137, 138, 139] (by decide +kernel) (by decide +kernel)
set_option maxRecDepth 20000 in
theorem gX5_clause_X5_condition : GoodIn wsX5_clause (wsV RX5 71 RX5 yX5_condition wsX5_condition) := goodIn_app (goodIn_of _ (by decide +kernel)) ggX5_clause_X5_condition
theorem dX5_clause_79 : decode cX5_clause 79 = .ok (.invokevirtual 71, 3) := by decide +kernel
theorem dX5_clause_82 : decode cX5_clause 82 = .ok (.ifCond .eq 12, 3) := by decide +kernel
theorem dX5_clause_94 : decode cX5_clause 94 = .ok (.iconst 0, 1) := by decide +kernel
theorem dX5_clause_95 : decode cX5_clause 95 = .ok (.ireturn, 1) := by decide +kernel
theorem dX5_clause_85 : decode cX5_clause 85 = .ok (.aload_n 0, 1) := by decide +kernel
theorem dX5_clause_86 : decode cX5_clause 86 = .ok (.bipush 63, 2) := by decide +kernel
set_option maxRecDepth 20000 in
theorem ggX5_clause_X5_takes : GoodIn wsX5_clause wsX5_takes := goodIn_r _ [5, 6, 7, 8, 9, 4, 10, 11, 12, 13, 133, 134, 135, 136, 137, 138, 139] (by decide +kernel) (by decide +kernel)
set_option maxRecDepth 20000 in
theorem gX5_clause_X5_takes : GoodIn wsX5_clause (wsV RX5 41 RX5 yX5_takes wsX5_takes) := goodIn_app (goodIn_of _ (by decide +kernel)) ggX5_clause_X5_takes
theorem dX5_clause_88 : decode cX5_clause 88 = .ok (.invokevirtual 41, 3) := by decide +kernel
theorem dX5_clause_91 : decode cX5_clause 91 = .ok (.ifCond .ne 5, 3) := by decide +kernel
theorem dX5_clause_96 : decode cX5_clause 96 = .ok (.aload_n 0, 1) := by decide +kernel
theorem dX5_clause_97 : decode cX5_clause 97 = .ok (.bipush 63, 2) := by decide +kernel
theorem dX5_clause_99 : decode cX5_clause 99 = .ok (.iconst 0, 1) := by decide +kernel
set_option maxRecDepth 20000 in
theorem ggX5_clause_X5_emit : GoodIn wsX5_clause wsX5_emit := goodIn_r _ [24, 25, 26, 133, 134, 135, 136, 137] (by decide +kernel) (by decide +kernel)
set_option maxRecDepth 20000 in
theorem gX5_clause_X5_emit : GoodIn wsX5_clause (wsV RX5 67 RX5 yX5_emit wsX5_emit) := goodIn_app (goodIn_of _ (by decide +kernel)) ggX5_clause_X5_emit
theorem dX5_clause_100 : decode cX5_clause 100 = .ok (.invokevirtual 67, 3) := by decide +kernel
theorem dX5_clause_103 : decode cX5_clause 103 = .ok (.aload_n 0, 1) := by decide +kernel
theorem dX5_clause_104 : decode cX5_clause 104 = .ok (.iconst 0, 1) := by decide +kernel
set_option maxRecDepth 20000 in
theorem ggX5_clause_X5_total : GoodIn wsX5_clause wsX5_total := goodIn_r _ [17, 11, 12, 6, 18, 19, 20, 4, 21, 22, 23, 24, 25, 26, 7, 8, 9, 10, 13, 27, 28, 14, 15, 16, 1, 2, 3, 5, 29, 30, 31, 32, 33, 34, 35, 36, 37, 38, 39, 40, 41, 42, 43, 44, 45, 46, 47, 48, 49, 50, 51, 52, 53, 54, 55, 56, 57, 58, 59, 60, 61, 62, 63, 64, 65, 66, 67, 68, 69, 70, 71, 72, 73, 74, 75, 76, 77, 78, 79, 80, 81, 82, 83, 84, 85, 86, 87, 88, 89, 90, 91, 92, 93, 94, 95, 96, 97, 98, 99, 100, 101, 102, 103, 104, 105, 106, 107, 108, 109, 110, 111, 112, 113, 114, 115, 116, 117, 118, 119, 120, 121, 133, 134, 135, 136, 137, 138, 139] (by decide +kernel) (by decide +kernel)
set_option maxRecDepth 20000 in
theorem gX5_clause_X5_total : GoodIn wsX5_clause (wsV RX5 60 RX5 yX5_total wsX5_total) := goodIn_app (goodIn_of _ (by decide +kernel)) ggX5_clause_X5_total
theorem dX5_clause_105 : decode cX5_clause 105 = .ok (.invokevirtual 60, 3) := by decide +kernel
theorem dX5_clause_108 : decode cX5_clause 108 = .ok (.ifCond .ne 5, 3) := by decide +kernel
theorem dX5_clause_113 : decode cX5_clause 113 = .ok (.aload_n 0, 1) := by decide +kernel
theorem dX5_clause_114 : decode cX5_clause 114 = .ok (.bipush 59, 2) := by decide +kernel
theorem dX5_clause_116 : decode cX5_clause 116 = .ok (.iconst 0, 1) := by decide +kernel
theorem dX5_clause_117 : decode cX5_clause 117 = .ok (.invokevirtual 67, 3) := by decide +kernel
theorem dX5_clause_120 : decode cX5_clause 120 = .ok (.iconst 1, 1) := by decide +kernel
theorem dX5_clause_121 : decode cX5_clause 121 = .ok (.ireturn, 1) := by decide +kernel
theorem dX5_clause_111 : decode cX5_clause 111 = .ok (.iconst 0, 1) := by decide +kernel
theorem dX5_clause_112 : decode cX5_clause 112 = .ok (.ireturn, 1) := by decide +kernel
theorem dX5_clause_42 : decode cX5_clause 42 = .ok (.istore_n 2, 1) := by decide +kernel
theorem dX5_clause_43 : decode cX5_clause 43 = .ok (.iload_n 2, 1) := by decide +kernel
theorem dX5_clause_44 : decode cX5_clause 44 = .ok (.ifCond .eq 32, 3) := by decide +kernel
theorem dX5_clause_47 : decode cX5_clause 47 = .ok (.aload_n 0, 1) := by decide +kernel
theorem dX5_clause_48 : decode cX5_clause 48 = .ok (.iconst 0, 1) := by decide +kernel
theorem dX5_clause_49 : decode cX5_clause 49 = .ok (.invokevirtual 60, 3) := by decide +kernel
theorem dX5_clause_52 : decode cX5_clause 52 = .ok (.ifCond .ne 5, 3) := by decide +kernel
theorem dX5_clause_57 : decode cX5_clause 57 = .ok (.aload_n 0, 1) := by decide +kernel
set_option maxRecDepth 20000 in
theorem ggX5_clause_X5_peek : GoodIn wsX5_clause wsX5_peek := goodIn_r _ [10, 6, 11, 12, 13, 133, 134, 135, 136, 137, 138, 139] (by decide +kernel) (by decide +kernel)
set_option maxRecDepth 20000 in
theorem gX5_clause_X5_peek : GoodIn wsX5_clause (wsV RX5 45 RX5 yX5_peek wsX5_peek) := goodIn_app (goodIn_of _ (by decide +kernel)) ggX5_clause_X5_peek
theorem dX5_clause_58 : decode cX5_clause 58 = .ok (.invokevirtual 45, 3) := by decide +kernel
set_option maxRecDepth 20000 in
theorem ggX5_clause_X5_compares : GoodIn wsX5_clause wsX5_compares := goodIn_r _ [124] (by decide +kernel) (by decide +kernel)
set_option maxRecDepth 20000 in
theorem gX5_clause_X5_compares : GoodIn wsX5_clause (va_wsS RX5 64 yX5_compares wsX5_compares) := goodIn_app (goodIn_of _ (by decide +kernel)) ggX5_clause_X5_compares
theorem dX5_clause_61 : decode cX5_clause 61 = .ok (.invokestatic 64, 3) := by decide +kernel
theorem dX5_clause_64 : decode cX5_clause 64 = .ok (.ifCond .ne 12, 3) := by decide +kernel
theorem dX5_clause_67 : decode cX5_clause 67 = .ok (.aload_n 0, 1) := by decide +kernel
theorem dX5_clause_68 : decode cX5_clause 68 = .ok (.bipush 59, 2) := by decide +kernel
theorem dX5_clause_70 : decode cX5_clause 70 = .ok (.iconst 0, 1) := by decide +kernel
theorem dX5_clause_71 : decode cX5_clause 71 = .ok (.invokevirtual 67, 3) := by decide +kernel
theorem dX5_clause_74 : decode cX5_clause 74 = .ok (.iconst 1, 1) := by decide +kernel
theorem dX5_clause_75 : decode cX5_clause 75 = .ok (.ireturn, 1) := by decide +kernel
theorem dX5_clause_55 : decode cX5_clause 55 = .ok (.iconst 0, 1) := by decide +kernel
theorem dX5_clause_56 : decode cX5_clause 56 = .ok (.ireturn, 1) := by decide +kernel
theorem dX5_clause_41 : decode cX5_clause 41 = .ok (.iconst 0, 1) := by decide +kernel
theorem dX5_clause_0 : decode cX5_clause 0 = .ok (.aload_n 0, 1) := by decide +kernel
theorem dX5_clause_1 : decode cX5_clause 1 = .ok (.bipush 121, 2) := by decide +kernel
theorem dX5_clause_3 : decode cX5_clause 3 = .ok (.invokevirtual 41, 3) := by decide +kernel
theorem dX5_clause_6 : decode cX5_clause 6 = .ok (.ifCond .eq 12, 3) := by decide +kernel
theorem dX5_clause_18 : decode cX5_clause 18 = .ok (.iconst 0, 1) := by decide +kernel
theorem dX5_clause_19 : decode cX5_clause 19 = .ok (.ireturn, 1) := by decide +kernel
theorem dX5_clause_9 : decode cX5_clause 9 = .ok (.aload_n 0, 1) := by decide +kernel
theorem dX5_clause_10 : decode cX5_clause 10 = .ok (.bipush 58, 2) := by decide +kernel
theorem dX5_clause_12 : decode cX5_clause 12 = .ok (.invokevirtual 41, 3) := by decide +kernel
theorem dX5_clause_15 : decode cX5_clause 15 = .ok (.ifCond .ne 5, 3) := by decide +kernel
theorem dX5_clause_20 : decode cX5_clause 20 = .ok (.aload_n 0, 1) := by decide +kernel
theorem dX5_clause_21 : decode cX5_clause 21 = .ok (.invokevirtual 45, 3) := by decide +kernel
theorem dX5_clause_24 : decode cX5_clause 24 = .ok (.istore_n 1, 1) := by decide +kernel
theorem dX5_clause_25 : decode cX5_clause 25 = .ok (.iload_n 1, 1) := by decide +kernel
theorem dX5_clause_26 : decode cX5_clause 26 = .ok (.bipush 33, 2) := by decide +kernel
theorem dX5_clause_28 : decode cX5_clause 28 = .ok (.if_icmp .eq 13, 3) := by decide +kernel
theorem dX5_clause_31 : decode cX5_clause 31 = .ok (.iload_n 1, 1) := by decide +kernel
theorem dX5_clause_32 : decode cX5_clause 32 = .ok (.bipush 40, 2) := by decide +kernel
theorem dX5_clause_34 : decode cX5_clause 34 = .ok (.if_icmp .eq 7, 3) := by decide +kernel
theorem dX5_clause_37 : decode cX5_clause 37 = .ok (.iconst 1, 1) := by decide +kernel
theorem dX5_clause_38 : decode cX5_clause 38 = .ok (.goto 4, 3) := by decide +kernel
/-- HissHorn$Parser.clause()Z of cell 2 -/
def rmX5_clause_2 : Room := { frames := 67, cells := 0, slots := 0, locals := 4163 }
def GX5_clause_2_76 (z2 : Int32) (u : SX) : Option (Int32 × SX) := ((rX5conditiong 64 0 0 z2 u).bind fun q => match q with | (r11, u12) => (if r11 = 0 then (gd (isB 0) (some (0, u12))) else ((fX5_takes_2 63 u12).bind fun q => match q with | (r15, u16) => (if r15 = 0 then (gd (isB 0) (some (0, u16))) else ((fX5_emit_2 63 0 u16).bind fun q => match q with | (r18, u19) => ((rX5conditiong 64 2 0 0 u19).bind fun q => match q with | (r21, u22) => (if r21 = 0 then (gd (isB 0) (some (0, u22))) else ((fX5_emit_2 59 0 u22).bind fun q => match q with | (r24, u25) => (gd (isB 1) (some (1, u25)))))))))))
def GX5_clause_2_42 (y0 : Int32) (u : SX) : Option (Int32 × SX) := (if y0 = 0 then (GX5_clause_2_76 y0 u) else ((rX5conditiong 64 2 0 0 u).bind fun q => match q with | (r30, u31) => (if r30 = 0 then (gd (isB 0) (some (0, u31))) else ((fX5_peek_2  u31).bind fun q => match q with | (r33, u34) => ((fX5_compares r33).bind fun r36 => (if r36 = 0 then ((fX5_emit_2 59 0 u34).bind fun q => match q with | (r39, u40) => (gd (isB 1) (some (1, u40)))) else (GX5_clause_2_76 y0 u34)))))))
def GX5_clause_2_41  (u : SX) : Option (Int32 × SX) := (GX5_clause_2_42 0 u)
def fX5_clause_2  (u : SX) : Option (Int32 × SX) := ((fX5_takes_2 121 u).bind fun q => match q with | (r1, u2) => (if r1 = 0 then (gd (isB 0) (some (0, u2))) else ((fX5_takes_2 58 u2).bind fun q => match q with | (r5, u6) => (if r5 = 0 then (gd (isB 0) (some (0, u6))) else ((fX5_peek_2  u6).bind fun q => match q with | (r8, u9) => (if r8 = 33 then (GX5_clause_2_41 u9) else (if r8 = 40 then (GX5_clause_2_41 u9) else (GX5_clause_2_42 1 u9))))))))
set_option maxHeartbeats 4000000 in
set_option maxRecDepth 100000 in
theorem wGX5_clause_2_76 {p : Program} {l : Launch} {e : Env} {s : State} {m : MethodId} {args : Array Value} {below : List Frame} {meth : Method} {c : Code} {D : va_G} {cy : Nat → ClassId} {ad st : Nat → Nat} (C : Cx RX5 cX5_clause 3 (some .boolean) wsX5_clause p s m args meth c) (hK : Kx D [(cy 0, .int), (cy 1, .long), (cy 2, .boolean), (cy 3, .byte), (cy 4, .object "HissHorn$Text")] st s) (hJ : JX ad) {r : Int32} {u' : SX}   (z2 : Int32) (u : SX) (H : Heap) (locs : List Loc) (ls : Array Slot) (h : GX5_clause_2_76 z2 u = some (r, u')) (hP : va_P D vwCl (VX cy ad st u) H) (hS : va_S (Ax (AX ad) s.heap.size) s.heap H locs) (hl : lv_has ls 3 [(0, .ref (ad 2)), (2, .int z2)]) : W p l e rmX5_clause_2 s m args below meth c H locs 0 0 (MQ below (Qi D (VX cy ad st) (AX ad) s.heap.size r u') args s 0 0 (Ax (AX ad) s.heap.size)) (F0 m 76 ls []) := by
  unfold GX5_clause_2_76 at h
  refine lv_aload_n C.1 C.2.1 dX5_clause_76 rfl (lv_at hl 0 rfl) ?_
  refine lv_iconst (v := 0) C.1 C.2.1 dX5_clause_77 (by decide) ?_
  refine lv_iload_n C.1 C.2.1 dX5_clause_78 rfl (lv_at hl 1 rfl) ?_
  obtain ⟨⟨r11, u12⟩, hc13, h⟩ := bd_some h
  try dsimp only at h
  refine cg_i (As := [.int 0, .int z2]) (rest := []) C hK hP hS ((hRX5conditiong_all l D cy ad st hJ 64).1 _ 0 z2 _ _ _ hc13) (cwV 2 C.2.2.2.2.2.1 gX5_clause_X5_condition rfl rfl rfl (by decide +kernel) ⟨(Nat.le_of_ble_eq_true rfl), (Nat.le_of_ble_eq_true rfl)⟩) 2 5 rfl rfl rfl hl.1 rfl (Nat.le_of_ble_eq_true rfl) dX5_clause_79 ⟨Nat.zero_le _, Nat.zero_le _⟩ (fun H locs hP hS => ?_)
  refine lv_if_eq (tgt := 94) C.1 C.2.1 dX5_clause_82 (by decide) (fun c82 => ?_) (fun c82 => ?_)
  · rw [if_pos c82] at h
    refine lv_iconst (v := 0) C.1 C.2.1 dX5_clause_94 (by decide) ?_
    obtain ⟨hg14, h⟩ := gd_some h
    cases h
    exact rt_z hg14 C hP hS dX5_clause_95
  · rw [if_neg c82] at h
    refine lv_aload_n C.1 C.2.1 dX5_clause_85 rfl (lv_at hl 0 rfl) ?_
    refine lv_bipush (v := 63) C.1 C.2.1 dX5_clause_86 (by decide) ?_
    obtain ⟨⟨r15, u16⟩, hc17, h⟩ := bd_some h
    try dsimp only at h
    refine cg_i (As := [.int 63]) (rest := []) C hK hP hS (metX5_takes_2 l D cy ad st hJ _ 63 hc17) (cwV 1 C.2.2.2.2.2.1 gX5_clause_X5_takes rfl rfl rfl (by decide +kernel) ⟨(Nat.le_of_ble_eq_true rfl), (Nat.le_of_ble_eq_true rfl)⟩) 2 5 rfl rfl rfl hl.1 rfl (Nat.le_of_ble_eq_true rfl) dX5_clause_88 ⟨Nat.zero_le _, Nat.zero_le _⟩ (fun H locs hP hS => ?_)
    refine lv_if_ne (tgt := 96) C.1 C.2.1 dX5_clause_91 (by decide) (fun c91 => ?_) (fun c91 => ?_)
    · rw [if_neg c91] at h
      refine lv_aload_n C.1 C.2.1 dX5_clause_96 rfl (lv_at hl 0 rfl) ?_
      refine lv_bipush (v := 63) C.1 C.2.1 dX5_clause_97 (by decide) ?_
      refine lv_iconst (v := 0) C.1 C.2.1 dX5_clause_99 (by decide) ?_
      obtain ⟨⟨r18, u19⟩, hc20, h⟩ := bd_some h
      try dsimp only at h
      refine cg_v (As := [.int 63, .int 0]) (rest := []) C hK hP hS (metX5_emit_2 l D cy ad st hJ _ 63 0 hc20) (cwV 2 C.2.2.2.2.2.1 gX5_clause_X5_emit rfl rfl rfl (by decide +kernel) ⟨(Nat.le_of_ble_eq_true rfl), (Nat.le_of_ble_eq_true rfl)⟩) 2 5 rfl rfl rfl hl.1 rfl (Nat.le_of_ble_eq_true rfl) dX5_clause_100 ⟨Nat.zero_le _, Nat.zero_le _⟩ (fun H locs hP hS => ?_)
      refine lv_aload_n C.1 C.2.1 dX5_clause_103 rfl (lv_at hl 0 rfl) ?_
      refine lv_iconst (v := 0) C.1 C.2.1 dX5_clause_104 (by decide) ?_
      obtain ⟨⟨r21, u22⟩, hc23, h⟩ := bd_some h
      try dsimp only at h
      refine cg_i (As := [.int 0]) (rest := []) C hK hP hS ((hRX5conditiong_all l D cy ad st hJ 64).2.2.1 _ 0 _ _ _ hc23) (cwV 1 C.2.2.2.2.2.1 gX5_clause_X5_total rfl rfl rfl (by decide +kernel) ⟨(Nat.le_of_ble_eq_true rfl), (Nat.le_of_ble_eq_true rfl)⟩) 2 5 rfl rfl rfl hl.1 rfl (Nat.le_of_ble_eq_true rfl) dX5_clause_105 ⟨Nat.zero_le _, Nat.zero_le _⟩ (fun H locs hP hS => ?_)
      refine lv_if_ne (tgt := 113) C.1 C.2.1 dX5_clause_108 (by decide) (fun c108 => ?_) (fun c108 => ?_)
      · rw [if_neg c108] at h
        refine lv_aload_n C.1 C.2.1 dX5_clause_113 rfl (lv_at hl 0 rfl) ?_
        refine lv_bipush (v := 59) C.1 C.2.1 dX5_clause_114 (by decide) ?_
        refine lv_iconst (v := 0) C.1 C.2.1 dX5_clause_116 (by decide) ?_
        obtain ⟨⟨r24, u25⟩, hc26, h⟩ := bd_some h
        try dsimp only at h
        refine cg_v (As := [.int 59, .int 0]) (rest := []) C hK hP hS (metX5_emit_2 l D cy ad st hJ _ 59 0 hc26) (cwV 2 C.2.2.2.2.2.1 gX5_clause_X5_emit rfl rfl rfl (by decide +kernel) ⟨(Nat.le_of_ble_eq_true rfl), (Nat.le_of_ble_eq_true rfl)⟩) 2 5 rfl rfl rfl hl.1 rfl (Nat.le_of_ble_eq_true rfl) dX5_clause_117 ⟨Nat.zero_le _, Nat.zero_le _⟩ (fun H locs hP hS => ?_)
        refine lv_iconst (v := 1) C.1 C.2.1 dX5_clause_120 (by decide) ?_
        obtain ⟨hg27, h⟩ := gd_some h
        cases h
        exact rt_z hg27 C hP hS dX5_clause_121
      · rw [if_pos c108] at h
        refine lv_iconst (v := 0) C.1 C.2.1 dX5_clause_111 (by decide) ?_
        obtain ⟨hg28, h⟩ := gd_some h
        cases h
        exact rt_z hg28 C hP hS dX5_clause_112
    · rw [if_pos c91] at h
      refine lv_iconst (v := 0) C.1 C.2.1 dX5_clause_94 (by decide) ?_
      obtain ⟨hg29, h⟩ := gd_some h
      cases h
      exact rt_z hg29 C hP hS dX5_clause_95
set_option maxHeartbeats 4000000 in
set_option maxRecDepth 100000 in
theorem wGX5_clause_2_42 {p : Program} {l : Launch} {e : Env} {s : State} {m : MethodId} {args : Array Value} {below : List Frame} {meth : Method} {c : Code} {D : va_G} {cy : Nat → ClassId} {ad st : Nat → Nat} (C : Cx RX5 cX5_clause 3 (some .boolean) wsX5_clause p s m args meth c) (hK : Kx D [(cy 0, .int), (cy 1, .long), (cy 2, .boolean), (cy 3, .byte), (cy 4, .object "HissHorn$Text")] st s) (hJ : JX ad) {r : Int32} {u' : SX}   (y0 : Int32) (u : SX) (H : Heap) (locs : List Loc) (ls : Array Slot) (h : GX5_clause_2_42 y0 u = some (r, u')) (hP : va_P D vwCl (VX cy ad st u) H) (hS : va_S (Ax (AX ad) s.heap.size) s.heap H locs) (hl : lv_has ls 3 [(0, .ref (ad 2))]) : W p l e rmX5_clause_2 s m args below meth c H locs 0 0 (MQ below (Qi D (VX cy ad st) (AX ad) s.heap.size r u') args s 0 0 (Ax (AX ad) s.heap.size)) (F0 m 42 ls [.int y0]) := by
  unfold GX5_clause_2_42 at h
  refine lv_istore_n (lv' := [(2, .int y0), (0, .ref (ad 2))]) C.1 C.2.1 dX5_clause_42 rfl hl (by decide) rfl (fun ls hl => ?_)
  replace hl := lv_sub (l' := [(0, .ref (ad 2)), (2, .int y0)]) hl [1, 0] rfl
  refine lv_iload_n C.1 C.2.1 dX5_clause_43 rfl (lv_at hl 1 rfl) ?_
  refine lv_if_eq (tgt := 76) C.1 C.2.1 dX5_clause_44 (by decide) (fun c44 => ?_) (fun c44 => ?_)
  · rw [if_pos c44] at h
    exact wGX5_clause_2_76 C hK hJ _ _ _ _ _ h hP hS hl
  · rw [if_neg c44] at h
    refine lv_aload_n C.1 C.2.1 dX5_clause_47 rfl (lv_at hl 0 rfl) ?_
    refine lv_iconst (v := 0) C.1 C.2.1 dX5_clause_48 (by decide) ?_
    obtain ⟨⟨r30, u31⟩, hc32, h⟩ := bd_some h
    try dsimp only at h
    refine cg_i (As := [.int 0]) (rest := []) C hK hP hS ((hRX5conditiong_all l D cy ad st hJ 64).2.2.1 _ 0 _ _ _ hc32) (cwV 1 C.2.2.2.2.2.1 gX5_clause_X5_total rfl rfl rfl (by decide +kernel) ⟨(Nat.le_of_ble_eq_true rfl), (Nat.le_of_ble_eq_true rfl)⟩) 2 5 rfl rfl rfl hl.1 rfl (Nat.le_of_ble_eq_true rfl) dX5_clause_49 ⟨Nat.zero_le _, Nat.zero_le _⟩ (fun H locs hP hS => ?_)
    refine lv_if_ne (tgt := 57) C.1 C.2.1 dX5_clause_52 (by decide) (fun c52 => ?_) (fun c52 => ?_)
    · rw [if_neg c52] at h
      refine lv_aload_n C.1 C.2.1 dX5_clause_57 rfl (lv_at hl 0 rfl) ?_
      obtain ⟨⟨r33, u34⟩, hc35, h⟩ := bd_some h
      try dsimp only at h
      refine cg_i (As := []) (rest := []) C hK hP hS (metX5_peek_2 l D cy ad st hJ _  hc35) (cwV 0 C.2.2.2.2.2.1 gX5_clause_X5_peek rfl rfl rfl (by decide +kernel) ⟨(Nat.le_of_ble_eq_true rfl), (Nat.le_of_ble_eq_true rfl)⟩) 2 5 rfl rfl rfl hl.1 rfl (Nat.le_of_ble_eq_true rfl) dX5_clause_58 ⟨Nat.zero_le _, Nat.zero_le _⟩ (fun H locs hP hS => ?_)
      obtain ⟨r36, hc38, h⟩ := bd_some h
      refine cs_i (As := [.int r33]) (rest := []) C hK hP hS (metX5_compares l D cy st _ r33 hc38) (va_cwS 1 C.2.2.2.2.2.1 gX5_clause_X5_compares rfl rfl rfl (by decide +kernel) ⟨(Nat.le_of_ble_eq_true rfl), (Nat.le_of_ble_eq_true rfl)⟩) rfl hl.1 rfl (Nat.le_of_ble_eq_true rfl) dX5_clause_61 ⟨Nat.zero_le _, Nat.zero_le _⟩ (fun H locs hP hS => ?_)
      refine lv_if_ne (tgt := 76) C.1 C.2.1 dX5_clause_64 (by decide) (fun c64 => ?_) (fun c64 => ?_)
      · rw [if_neg c64] at h
        exact wGX5_clause_2_76 C hK hJ _ _ _ _ _ h hP hS hl
      · rw [if_pos c64] at h
        refine lv_aload_n C.1 C.2.1 dX5_clause_67 rfl (lv_at hl 0 rfl) ?_
        refine lv_bipush (v := 59) C.1 C.2.1 dX5_clause_68 (by decide) ?_
        refine lv_iconst (v := 0) C.1 C.2.1 dX5_clause_70 (by decide) ?_
        obtain ⟨⟨r39, u40⟩, hc41, h⟩ := bd_some h
        try dsimp only at h
        refine cg_v (As := [.int 59, .int 0]) (rest := []) C hK hP hS (metX5_emit_2 l D cy ad st hJ _ 59 0 hc41) (cwV 2 C.2.2.2.2.2.1 gX5_clause_X5_emit rfl rfl rfl (by decide +kernel) ⟨(Nat.le_of_ble_eq_true rfl), (Nat.le_of_ble_eq_true rfl)⟩) 2 5 rfl rfl rfl hl.1 rfl (Nat.le_of_ble_eq_true rfl) dX5_clause_71 ⟨Nat.zero_le _, Nat.zero_le _⟩ (fun H locs hP hS => ?_)
        refine lv_iconst (v := 1) C.1 C.2.1 dX5_clause_74 (by decide) ?_
        obtain ⟨hg42, h⟩ := gd_some h
        cases h
        exact rt_z hg42 C hP hS dX5_clause_75
    · rw [if_pos c52] at h
      refine lv_iconst (v := 0) C.1 C.2.1 dX5_clause_55 (by decide) ?_
      obtain ⟨hg43, h⟩ := gd_some h
      cases h
      exact rt_z hg43 C hP hS dX5_clause_56
set_option maxHeartbeats 4000000 in
set_option maxRecDepth 100000 in
theorem wGX5_clause_2_41 {p : Program} {l : Launch} {e : Env} {s : State} {m : MethodId} {args : Array Value} {below : List Frame} {meth : Method} {c : Code} {D : va_G} {cy : Nat → ClassId} {ad st : Nat → Nat} (C : Cx RX5 cX5_clause 3 (some .boolean) wsX5_clause p s m args meth c) (hK : Kx D [(cy 0, .int), (cy 1, .long), (cy 2, .boolean), (cy 3, .byte), (cy 4, .object "HissHorn$Text")] st s) (hJ : JX ad) {r : Int32} {u' : SX}   (u : SX) (H : Heap) (locs : List Loc) (ls : Array Slot) (h : GX5_clause_2_41  u = some (r, u')) (hP : va_P D vwCl (VX cy ad st u) H) (hS : va_S (Ax (AX ad) s.heap.size) s.heap H locs) (hl : lv_has ls 3 [(0, .ref (ad 2))]) : W p l e rmX5_clause_2 s m args below meth c H locs 0 0 (MQ below (Qi D (VX cy ad st) (AX ad) s.heap.size r u') args s 0 0 (Ax (AX ad) s.heap.size)) (F0 m 41 ls []) := by
  unfold GX5_clause_2_41 at h
  refine lv_iconst (v := 0) C.1 C.2.1 dX5_clause_41 (by decide) ?_
  exact wGX5_clause_2_42 C hK hJ _ _ _ _ _ h hP hS hl
set_option maxHeartbeats 4000000 in
set_option maxRecDepth 100000 in
theorem wX5_clause_2 {p : Program} {l : Launch} {e : Env} {s : State} {m : MethodId} {args : Array Value} {below : List Frame} {meth : Method} {c : Code} {D : va_G} {cy : Nat → ClassId} {ad st : Nat → Nat} (C : Cx RX5 cX5_clause 3 (some .boolean) wsX5_clause p s m args meth c) (hK : Kx D [(cy 0, .int), (cy 1, .long), (cy 2, .boolean), (cy 3, .byte), (cy 4, .object "HissHorn$Text")] st s) (hJ : JX ad)  {u : SX} {r : Int32} {u' : SX} {H : Heap} {locs : List Loc} {ls : Array Slot} (h : fX5_clause_2  u = some (r, u')) (hP : va_P D vwCl (VX cy ad st u) H) (hS : va_S (Ax (AX ad) s.heap.size) s.heap H locs) (hl : lv_has ls 3 [(0, .ref (ad 2))]) : W p l e rmX5_clause_2 s m args below meth c H locs 0 0 (MQ below (Qi D (VX cy ad st) (AX ad) s.heap.size r u') args s 0 0 (Ax (AX ad) s.heap.size)) (F0 m 0 ls []) := by
  unfold fX5_clause_2 at h
  refine lv_aload_n C.1 C.2.1 dX5_clause_0 rfl (lv_at hl 0 rfl) ?_
  refine lv_bipush (v := 121) C.1 C.2.1 dX5_clause_1 (by decide) ?_
  obtain ⟨⟨r1, u2⟩, hc3, h⟩ := bd_some h
  try dsimp only at h
  refine cg_i (As := [.int 121]) (rest := []) C hK hP hS (metX5_takes_2 l D cy ad st hJ _ 121 hc3) (cwV 1 C.2.2.2.2.2.1 gX5_clause_X5_takes rfl rfl rfl (by decide +kernel) ⟨(Nat.le_of_ble_eq_true rfl), (Nat.le_of_ble_eq_true rfl)⟩) 2 5 rfl rfl rfl hl.1 rfl (Nat.le_of_ble_eq_true rfl) dX5_clause_3 ⟨Nat.zero_le _, Nat.zero_le _⟩ (fun H locs hP hS => ?_)
  refine lv_if_eq (tgt := 18) C.1 C.2.1 dX5_clause_6 (by decide) (fun c6 => ?_) (fun c6 => ?_)
  · rw [if_pos c6] at h
    refine lv_iconst (v := 0) C.1 C.2.1 dX5_clause_18 (by decide) ?_
    obtain ⟨hg4, h⟩ := gd_some h
    cases h
    exact rt_z hg4 C hP hS dX5_clause_19
  · rw [if_neg c6] at h
    refine lv_aload_n C.1 C.2.1 dX5_clause_9 rfl (lv_at hl 0 rfl) ?_
    refine lv_bipush (v := 58) C.1 C.2.1 dX5_clause_10 (by decide) ?_
    obtain ⟨⟨r5, u6⟩, hc7, h⟩ := bd_some h
    try dsimp only at h
    refine cg_i (As := [.int 58]) (rest := []) C hK hP hS (metX5_takes_2 l D cy ad st hJ _ 58 hc7) (cwV 1 C.2.2.2.2.2.1 gX5_clause_X5_takes rfl rfl rfl (by decide +kernel) ⟨(Nat.le_of_ble_eq_true rfl), (Nat.le_of_ble_eq_true rfl)⟩) 2 5 rfl rfl rfl hl.1 rfl (Nat.le_of_ble_eq_true rfl) dX5_clause_12 ⟨Nat.zero_le _, Nat.zero_le _⟩ (fun H locs hP hS => ?_)
    refine lv_if_ne (tgt := 20) C.1 C.2.1 dX5_clause_15 (by decide) (fun c15 => ?_) (fun c15 => ?_)
    · rw [if_neg c15] at h
      refine lv_aload_n C.1 C.2.1 dX5_clause_20 rfl (lv_at hl 0 rfl) ?_
      obtain ⟨⟨r8, u9⟩, hc10, h⟩ := bd_some h
      try dsimp only at h
      refine cg_i (As := []) (rest := []) C hK hP hS (metX5_peek_2 l D cy ad st hJ _  hc10) (cwV 0 C.2.2.2.2.2.1 gX5_clause_X5_peek rfl rfl rfl (by decide +kernel) ⟨(Nat.le_of_ble_eq_true rfl), (Nat.le_of_ble_eq_true rfl)⟩) 2 5 rfl rfl rfl hl.1 rfl (Nat.le_of_ble_eq_true rfl) dX5_clause_21 ⟨Nat.zero_le _, Nat.zero_le _⟩ (fun H locs hP hS => ?_)
      refine lv_istore_n (lv' := [(1, .int r8), (0, .ref (ad 2))]) C.1 C.2.1 dX5_clause_24 rfl hl (by decide) rfl (fun ls hl => ?_)
      replace hl := lv_sub (l' := [(0, .ref (ad 2)), (1, .int r8)]) hl [1, 0] rfl
      refine lv_iload_n C.1 C.2.1 dX5_clause_25 rfl (lv_at hl 1 rfl) ?_
      refine lv_bipush (v := 33) C.1 C.2.1 dX5_clause_26 (by decide) ?_
      refine lv_icmp_eq (tgt := 41) C.1 C.2.1 dX5_clause_28 (by decide) (fun c28 => ?_) (fun c28 => ?_)
      · rw [if_pos c28] at h
        exact wGX5_clause_2_41 C hK hJ _ _ _ _ h hP hS (lv_sub hl [0] rfl)
      · rw [if_neg c28] at h
        refine lv_iload_n C.1 C.2.1 dX5_clause_31 rfl (lv_at hl 1 rfl) ?_
        refine lv_bipush (v := 40) C.1 C.2.1 dX5_clause_32 (by decide) ?_
        refine lv_icmp_eq (tgt := 41) C.1 C.2.1 dX5_clause_34 (by decide) (fun c34 => ?_) (fun c34 => ?_)
        · rw [if_pos c34] at h
          exact wGX5_clause_2_41 C hK hJ _ _ _ _ h hP hS (lv_sub hl [0] rfl)
        · rw [if_neg c34] at h
          refine lv_iconst (v := 1) C.1 C.2.1 dX5_clause_37 (by decide) ?_
          refine lv_goto (tgt := 42) C.1 C.2.1 dX5_clause_38 (by decide) ?_
          exact wGX5_clause_2_42 C hK hJ _ _ _ _ _ h hP hS (lv_sub hl [0] rfl)
    · rw [if_pos c15] at h
      refine lv_iconst (v := 0) C.1 C.2.1 dX5_clause_18 (by decide) ?_
      obtain ⟨hg44, h⟩ := gd_some h
      cases h
      exact rt_z hg44 C hP hS dX5_clause_19
theorem metX5_clause_2 (l : Launch) (D : va_G) (cy : Nat → ClassId) (ad st : Nat → Nat) (hJ : JX ad) (sz : Nat)  {u : SX} {r : Int32} {u' : SX} (h : fX5_clause_2  u = some (r, u')) : Met l yX5_clause wsX5_clause rmX5_clause_2 (va_Pc [.ref (ad 2)] (Px D [(cy 0, .int), (cy 1, .long), (cy 2, .boolean), (cy 3, .byte), (cy 4, .object "HissHorn$Text")] st (VX cy ad st) sz u)) (Qi D (VX cy ad st) (AX ad) sz r u') 0 0 (Ax (AX ad) sz) := by
  refine Met.ofW (cc := cX5_clause) (maxL := 3) (ret := (some .boolean)) (by decide) rfl ?_
  intro p e s m args below meth c s₁ B hml hv
  obtain ⟨rfl, hsz, hP, hK⟩ := hv
  subst hsz
  have C : Cx RX5 cX5_clause 3 (some .boolean) wsX5_clause p s m _ meth c := ⟨B.exec, B.bytes, hml, B.returns, findClass_of_methodNamed B.named, atoms_spec (ws := wsX5_clause) B.pre, B.notSynchronized⟩
  have hl := lv_entry ([.ref (ad 2)]) (n := 3) (Nat.le_of_ble_eq_true rfl)
  rw [lg_entry_eq]
  exact wX5_clause_2 C hK hJ h hP va_S.rf hl

theorem dX5_faultBy_17 : decode cX5_faultBy 17 = .ok (.iload_n 2, 1) := by decide +kernel
theorem dX5_faultBy_18 : decode cX5_faultBy 18 = .ok (.aload_n 0, 1) := by decide +kernel
theorem dX5_faultBy_19 : decode cX5_faultBy 19 = .ok (.getfield 23, 3) := by decide +kernel
theorem dX5_faultBy_22 : decode cX5_faultBy 22 = .ok (.getfield 34, 3) := by decide +kernel
theorem dX5_faultBy_25 : decode cX5_faultBy 25 = .ok (.if_icmp .gt 33, 3) := by decide +kernel
theorem dX5_faultBy_28 : decode cX5_faultBy 28 = .ok (.aload_n 0, 1) := by decide +kernel
set_option maxRecDepth 20000 in
theorem ggX5_faultBy_X5_clause : GoodIn wsX5_faultBy wsX5_clause := goodIn_r _ [10, 11, 12, 13, 9, 14, 2, 15, 16, 17, 18, 4, 5, 19, 20, 21, 22, 23, 24, 25, 26, 27, 28, 29, 30, 3, 31, 32, 1, 33, 34, 35, 36, 37, 38, 39, 40, 41, 42, 43, 44, 45, 46, 47, 48, 49, 50, 51, 52, 53, 54, 55, 56, 57, 58, 59, 60, 61, 62, 63, 64, 65, 66, 67, 68, 69, 70, 71, 72, 73, 74, 75, 76, 77, 78, 79, 80, 81, 82, 83, 84, 85, 86, 87, 88, 89, 90, 91, 92, 93, 94, 95, 96, 97, 98, 99, 100, 101, 102, 103, 104, 105, 106, 107, 108, 109, 110, 111, 112, 113, 114, 115, 116, 117, 118, 119, 120, 121, 122, 123, 124, 125, 126, 127, 128, 129, 130, 131, 132, 133, 134, 135, 136, 137, 138, 139, 140, 141, 142, 143] (by decide +kernel) (by decide +kernel)
set_option maxRecDepth 20000 in
theorem gX5_faultBy_X5_clause : GoodIn wsX5_faultBy (wsV RX5 37 RX5 yX5_clause wsX5_clause) := goodIn_app (goodIn_of _ (by decide +kernel)) ggX5_faultBy_X5_clause
theorem dX5_faultBy_29 : decode cX5_faultBy 29 = .ok (.invokevirtual 37, 3) := by decide +kernel
theorem dX5_faultBy_32 : decode cX5_faultBy 32 = .ok (.ifCond .ne 8, 3) := by decide +kernel
theorem dX5_faultBy_40 : decode cX5_faultBy 40 = .ok (.aload_n 0, 1) := by decide +kernel
theorem dX5_faultBy_41 : decode cX5_faultBy 41 = .ok (.bipush 59, 2) := by decide +kernel
set_option maxRecDepth 20000 in
theorem ggX5_faultBy_X5_takes : GoodIn wsX5_faultBy wsX5_takes := goodIn_r _ [14, 2, 15, 16, 17, 9, 18, 4, 5, 19, 137, 138, 139, 140, 141, 142, 143] (by decide +kernel) (by decide +kernel)
set_option maxRecDepth 20000 in
theorem gX5_faultBy_X5_takes : GoodIn wsX5_faultBy (wsV RX5 41 RX5 yX5_takes wsX5_takes) := goodIn_app (goodIn_of _ (by decide +kernel)) ggX5_faultBy_X5_takes
theorem dX5_faultBy_43 : decode cX5_faultBy 43 = .ok (.invokevirtual 41, 3) := by decide +kernel
theorem dX5_faultBy_46 : decode cX5_faultBy 46 = .ok (.ifCond .ne 6, 3) := by decide +kernel
theorem dX5_faultBy_52 : decode cX5_faultBy 52 = .ok (.iinc 2 1, 3) := by decide +kernel
theorem dX5_faultBy_55 : decode cX5_faultBy 55 = .ok (.goto (-38), 3) := by decide +kernel
theorem dX5_faultBy_35 : decode cX5_faultBy 35 = .ok (.aload_n 0, 1) := by decide +kernel
theorem dX5_faultBy_36 : decode cX5_faultBy 36 = .ok (.getfield 27, 3) := by decide +kernel
theorem dX5_faultBy_39 : decode cX5_faultBy 39 = .ok (.ireturn, 1) := by decide +kernel
theorem dX5_faultBy_58 : decode cX5_faultBy 58 = .ok (.aload_n 0, 1) := by decide +kernel
set_option maxRecDepth 20000 in
theorem ggX5_faultBy_X5_peek : GoodIn wsX5_faultBy wsX5_peek := goodIn_r _ [18, 2, 4, 5, 19, 137, 138, 139, 140, 141, 142, 143] (by decide +kernel) (by decide +kernel)
set_option maxRecDepth 20000 in
theorem gX5_faultBy_X5_peek : GoodIn wsX5_faultBy (wsV RX5 45 RX5 yX5_peek wsX5_peek) := goodIn_app (goodIn_of _ (by decide +kernel)) ggX5_faultBy_X5_peek
theorem dX5_faultBy_59 : decode cX5_faultBy 59 = .ok (.invokevirtual 45, 3) := by decide +kernel
theorem dX5_faultBy_62 : decode cX5_faultBy 62 = .ok (.ifCond .ne 7, 3) := by decide +kernel
theorem dX5_faultBy_69 : decode cX5_faultBy 69 = .ok (.aload_n 0, 1) := by decide +kernel
theorem dX5_faultBy_70 : decode cX5_faultBy 70 = .ok (.getfield 27, 3) := by decide +kernel
theorem dX5_faultBy_73 : decode cX5_faultBy 73 = .ok (.ireturn, 1) := by decide +kernel
theorem dX5_faultBy_65 : decode cX5_faultBy 65 = .ok (.iconst (-1), 1) := by decide +kernel
theorem dX5_faultBy_66 : decode cX5_faultBy 66 = .ok (.goto 7, 3) := by decide +kernel
theorem dX5_faultBy_49 : decode cX5_faultBy 49 = .ok (.goto 9, 3) := by decide +kernel
theorem dX5_faultBy_0 : decode cX5_faultBy 0 = .ok (.aload_n 0, 1) := by decide +kernel
theorem dX5_faultBy_1 : decode cX5_faultBy 1 = .ok (.aload_n 1, 1) := by decide +kernel
theorem dX5_faultBy_2 : decode cX5_faultBy 2 = .ok (.putfield 19, 3) := by decide +kernel
theorem dX5_faultBy_5 : decode cX5_faultBy 5 = .ok (.aload_n 0, 1) := by decide +kernel
theorem dX5_faultBy_6 : decode cX5_faultBy 6 = .ok (.iconst 0, 1) := by decide +kernel
theorem dX5_faultBy_7 : decode cX5_faultBy 7 = .ok (.putfield 27, 3) := by decide +kernel
theorem dX5_faultBy_10 : decode cX5_faultBy 10 = .ok (.aload_n 0, 1) := by decide +kernel
theorem dX5_faultBy_11 : decode cX5_faultBy 11 = .ok (.iconst 0, 1) := by decide +kernel
theorem dX5_faultBy_12 : decode cX5_faultBy 12 = .ok (.putfield 31, 3) := by decide +kernel
theorem dX5_faultBy_15 : decode cX5_faultBy 15 = .ok (.iconst 0, 1) := by decide +kernel
theorem dX5_faultBy_16 : decode cX5_faultBy 16 = .ok (.istore_n 2, 1) := by decide +kernel
/-- HissHorn$Parser.faultBy(Ljava/lang/String;)I of cell 2 -/
def rmX5_faultBy_2_as0 : Room := { frames := 68, cells := 0, slots := 0, locals := 4185 }
theorem hX5_faultBy_2_as0_X5 : ∀ w ∈ u_ws RX5 TX5 5, w ∈ wsX5_faultBy := fun w h => (List.mem_cons_of_mem _ (List.mem_append_left _ (List.mem_append_right _ h)))
theorem mX5_faultBy_2_as0_1 : Cond.fieldLink RX5 19 "HissHorn$Parser" "letters" "Ljava/lang/String;" ∈ wsX5_faultBy := (List.mem_cons_of_mem _ (List.mem_append_left _ (List.mem_append_left _ (List.mem_append_left _ (List.mem_of_getElem? (i := 0) rfl)))))
theorem mX5_faultBy_2_as0_2 : Cond.fieldLink RX5 27 "HissHorn$Parser" "at" "I" ∈ wsX5_faultBy := (List.mem_cons_of_mem _ (List.mem_append_left _ (List.mem_append_left _ (List.mem_append_left _ (List.mem_of_getElem? (i := 1) rfl)))))
theorem mX5_faultBy_2_as0_3 : Cond.fieldLink RX5 31 "HissHorn$Parser" "size" "I" ∈ wsX5_faultBy := (List.mem_cons_of_mem _ (List.mem_append_left _ (List.mem_append_left _ (List.mem_append_left _ (List.mem_of_getElem? (i := 2) rfl)))))
theorem mX5_faultBy_2_as0_4 : Cond.fieldLink RX5 23 "HissHorn$Parser" "tape" "LHissHorn$Tape;" ∈ wsX5_faultBy := (List.mem_cons_of_mem _ (List.mem_append_left _ (List.mem_append_left _ (List.mem_append_left _ (List.mem_of_getElem? (i := 3) rfl)))))
theorem hX5_faultBy_2_as0_X9 : ∀ w ∈ u_ws RX9 TX9 2, w ∈ wsX5_faultBy := fun w h => (List.mem_cons_of_mem _ (List.mem_append_right _ h))
theorem mX5_faultBy_2_as0_6 : Cond.fieldLink RX5 34 "HissHorn$Tape" "length" "I" ∈ wsX5_faultBy := (List.mem_cons_of_mem _ (List.mem_append_left _ (List.mem_append_left _ (List.mem_append_left _ (List.mem_of_getElem? (i := 4) rfl)))))
def LX5_faultBy_2_as0_17 (k49 : SX → Option (Int32 × SX)) (k58 : SX → Option (Int32 × SX)) : Nat → Int32 → SX → Option (Int32 × SX)
  | 0, _, _ => none
  | n + 1, z2, u => (if (u.1 1) < z2 then (k58 u) else ((fX5_clause_2  u).bind fun q => match q with | (r7, u8) => (if r7 = 0 then (some (u8.1 4, u8)) else ((fX5_takes_2 59 u8).bind fun q => match q with | (r10, u11) => (if r10 = 0 then (k49 u11) else ((LX5_faultBy_2_as0_17 k49 k58 n) (z2 + 1) u11))))))
def GX5_faultBy_2_as0_58  (u : SX) : Option (Int32 × SX) := ((fX5_peek_2  u).bind fun q => match q with | (r13, u14) => (if r13 = 0 then (some ((-1), u14)) else (some (u14.1 4, u14))))
def GX5_faultBy_2_as0_49  (u : SX) : Option (Int32 × SX) := (GX5_faultBy_2_as0_58 u)
def fX5_faultBy_2_as0  (u : SX) : Option (Int32 × SX) := (lt (sI u 3 0) fun u1 => (lt (sI u1 4 0) fun u3 => (lt (sI u3 2 0) fun u5 => (LX5_faultBy_2_as0_17 GX5_faultBy_2_as0_49 GX5_faultBy_2_as0_58 5000 0 u5))))
set_option maxHeartbeats 4000000 in
set_option maxRecDepth 100000 in
theorem wLX5_faultBy_2_as0_17 {p : Program} {l : Launch} {e : Env} {s : State} {m : MethodId} {args : Array Value} {below : List Frame} {meth : Method} {c : Code} {D : va_G} {cy : Nat → ClassId} {ad st : Nat → Nat} (C : Cx RX5 cX5_faultBy 3 (some .int) wsX5_faultBy p s m args meth c) (hK : Kx D [(cy 0, .int), (cy 1, .long), (cy 2, .boolean), (cy 3, .byte), (cy 4, .object "HissHorn$Text")] st s) (hJ : JX ad) {r : Int32} {u' : SX} {k49 : SX → Option (Int32 × SX)} {k58 : SX → Option (Int32 × SX)} (hk49 : ∀  (u : SX) (H : Heap) (locs : List Loc) (ls : Array Slot), k49 u = some (r, u') → va_P D vwCl (VX cy ad st u) H → va_S (Ax (AX ad) s.heap.size) s.heap H locs → lv_has ls 3 [(0, .ref (ad 2))] → W p l e rmX5_faultBy_2_as0 s m args below meth c H locs 0 0 (MQ below (Qi D (VX cy ad st) (AX ad) s.heap.size r u') args s 0 0 (Ax (AX ad) s.heap.size)) (F0 m 49 ls [])) (hk58 : ∀  (u : SX) (H : Heap) (locs : List Loc) (ls : Array Slot), k58 u = some (r, u') → va_P D vwCl (VX cy ad st u) H → va_S (Ax (AX ad) s.heap.size) s.heap H locs → lv_has ls 3 [(0, .ref (ad 2))] → W p l e rmX5_faultBy_2_as0 s m args below meth c H locs 0 0 (MQ below (Qi D (VX cy ad st) (AX ad) s.heap.size r u') args s 0 0 (Ax (AX ad) s.heap.size)) (F0 m 58 ls [])) : ∀ (n : Nat) (z2 : Int32) (u : SX) (H : Heap) (locs : List Loc) (ls : Array Slot), LX5_faultBy_2_as0_17 k49 k58 n z2 u = some (r, u') → va_P D vwCl (VX cy ad st u) H → va_S (Ax (AX ad) s.heap.size) s.heap H locs → lv_has ls 3 [(0, .ref (ad 2)), (2, .int z2)] → W p l e rmX5_faultBy_2_as0 s m args below meth c H locs 0 0 (MQ below (Qi D (VX cy ad st) (AX ad) s.heap.size r u') args s 0 0 (Ax (AX ad) s.heap.size)) (F0 m 17 ls []) := by
  intro n
  induction n with
  | zero =>
    intro z2 u H locs ls h
    exact absurd h (by intro q; cases q)
  | succ n ih =>
    intro z2 u H locs ls h hP hS hl
    rw [LX5_faultBy_2_as0_17] at h
    refine lv_iload_n C.1 C.2.1 dX5_faultBy_17 rfl (lv_at hl 1 rfl) ?_
    refine lv_aload_n C.1 C.2.1 dX5_faultBy_18 rfl (lv_at hl 0 rfl) ?_
    refine gX_2_tape C hX5_faultBy_2_as0_X5 hK hP mX5_faultBy_2_as0_4 dX5_faultBy_19 ?_
    refine gX_1_length C hX5_faultBy_2_as0_X9 hK hP mX5_faultBy_2_as0_6 dX5_faultBy_22 ?_
    refine lv_icmp_gt (tgt := 58) C.1 C.2.1 dX5_faultBy_25 (by decide) (fun c25 => ?_) (fun c25 => ?_)
    · rw [if_pos c25] at h
      exact hk58 _ _ _ _ h hP hS (lv_sub hl [0] rfl)
    · rw [if_neg c25] at h
      refine lv_aload_n C.1 C.2.1 dX5_faultBy_28 rfl (lv_at hl 0 rfl) ?_
      obtain ⟨⟨r7, u8⟩, hc9, h⟩ := bd_some h
      try dsimp only at h
      refine cg_i (As := []) (rest := []) C hK hP hS (metX5_clause_2 l D cy ad st hJ _  hc9) (cwV 0 C.2.2.2.2.2.1 gX5_faultBy_X5_clause rfl rfl rfl (by decide +kernel) ⟨(Nat.le_of_ble_eq_true rfl), (Nat.le_of_ble_eq_true rfl)⟩) 2 5 rfl rfl rfl hl.1 rfl (Nat.le_of_ble_eq_true rfl) dX5_faultBy_29 ⟨Nat.zero_le _, Nat.zero_le _⟩ (fun H locs hP hS => ?_)
      refine lv_if_ne (tgt := 40) C.1 C.2.1 dX5_faultBy_32 (by decide) (fun c32 => ?_) (fun c32 => ?_)
      · rw [if_neg c32] at h
        refine lv_aload_n C.1 C.2.1 dX5_faultBy_40 rfl (lv_at hl 0 rfl) ?_
        refine lv_bipush (v := 59) C.1 C.2.1 dX5_faultBy_41 (by decide) ?_
        obtain ⟨⟨r10, u11⟩, hc12, h⟩ := bd_some h
        try dsimp only at h
        refine cg_i (As := [.int 59]) (rest := []) C hK hP hS (metX5_takes_2 l D cy ad st hJ _ 59 hc12) (cwV 1 C.2.2.2.2.2.1 gX5_faultBy_X5_takes rfl rfl rfl (by decide +kernel) ⟨(Nat.le_of_ble_eq_true rfl), (Nat.le_of_ble_eq_true rfl)⟩) 2 5 rfl rfl rfl hl.1 rfl (Nat.le_of_ble_eq_true rfl) dX5_faultBy_43 ⟨Nat.zero_le _, Nat.zero_le _⟩ (fun H locs hP hS => ?_)
        refine lv_if_ne (tgt := 52) C.1 C.2.1 dX5_faultBy_46 (by decide) (fun c46 => ?_) (fun c46 => ?_)
        · rw [if_neg c46] at h
          refine lv_iinc (v := z2 + 1) (lv' := [(2, .int (z2 + 1)), (0, .ref (ad 2))]) C.1 C.2.1 dX5_faultBy_52 hl (k := 1) rfl rfl (by decide) rfl (fun ls hl => ?_)
          replace hl := lv_sub (l' := [(0, .ref (ad 2)), (2, .int (z2 + 1))]) hl [1, 0] rfl
          refine lv_goto (tgt := 17) C.1 C.2.1 dX5_faultBy_55 (by decide) ?_
          exact ih _ _ _ _ _ h hP hS hl
        · rw [if_pos c46] at h
          exact hk49 _ _ _ _ h hP hS (lv_sub hl [0] rfl)
      · rw [if_pos c32] at h
        refine lv_aload_n C.1 C.2.1 dX5_faultBy_35 rfl (lv_at hl 0 rfl) ?_
        refine gX_2_at C hX5_faultBy_2_as0_X5 hK hP mX5_faultBy_2_as0_2 dX5_faultBy_36 ?_
        cases h
        exact rt_i C hP hS dX5_faultBy_39
set_option maxHeartbeats 4000000 in
set_option maxRecDepth 100000 in
theorem wGX5_faultBy_2_as0_58 {p : Program} {l : Launch} {e : Env} {s : State} {m : MethodId} {args : Array Value} {below : List Frame} {meth : Method} {c : Code} {D : va_G} {cy : Nat → ClassId} {ad st : Nat → Nat} (C : Cx RX5 cX5_faultBy 3 (some .int) wsX5_faultBy p s m args meth c) (hK : Kx D [(cy 0, .int), (cy 1, .long), (cy 2, .boolean), (cy 3, .byte), (cy 4, .object "HissHorn$Text")] st s) (hJ : JX ad) {r : Int32} {u' : SX}   (u : SX) (H : Heap) (locs : List Loc) (ls : Array Slot) (h : GX5_faultBy_2_as0_58  u = some (r, u')) (hP : va_P D vwCl (VX cy ad st u) H) (hS : va_S (Ax (AX ad) s.heap.size) s.heap H locs) (hl : lv_has ls 3 [(0, .ref (ad 2))]) : W p l e rmX5_faultBy_2_as0 s m args below meth c H locs 0 0 (MQ below (Qi D (VX cy ad st) (AX ad) s.heap.size r u') args s 0 0 (Ax (AX ad) s.heap.size)) (F0 m 58 ls []) := by
  unfold GX5_faultBy_2_as0_58 at h
  refine lv_aload_n C.1 C.2.1 dX5_faultBy_58 rfl (lv_at hl 0 rfl) ?_
  obtain ⟨⟨r13, u14⟩, hc15, h⟩ := bd_some h
  try dsimp only at h
  refine cg_i (As := []) (rest := []) C hK hP hS (metX5_peek_2 l D cy ad st hJ _  hc15) (cwV 0 C.2.2.2.2.2.1 gX5_faultBy_X5_peek rfl rfl rfl (by decide +kernel) ⟨(Nat.le_of_ble_eq_true rfl), (Nat.le_of_ble_eq_true rfl)⟩) 2 5 rfl rfl rfl hl.1 rfl (Nat.le_of_ble_eq_true rfl) dX5_faultBy_59 ⟨Nat.zero_le _, Nat.zero_le _⟩ (fun H locs hP hS => ?_)
  refine lv_if_ne (tgt := 69) C.1 C.2.1 dX5_faultBy_62 (by decide) (fun c62 => ?_) (fun c62 => ?_)
  · rw [if_neg c62] at h
    refine lv_aload_n C.1 C.2.1 dX5_faultBy_69 rfl (lv_at hl 0 rfl) ?_
    refine gX_2_at C hX5_faultBy_2_as0_X5 hK hP mX5_faultBy_2_as0_2 dX5_faultBy_70 ?_
    cases h
    exact rt_i C hP hS dX5_faultBy_73
  · rw [if_pos c62] at h
    refine lv_iconst (v := (-1)) C.1 C.2.1 dX5_faultBy_65 (by decide) ?_
    refine lv_goto (tgt := 73) C.1 C.2.1 dX5_faultBy_66 (by decide) ?_
    cases h
    exact rt_i C hP hS dX5_faultBy_73
set_option maxHeartbeats 4000000 in
set_option maxRecDepth 100000 in
theorem wGX5_faultBy_2_as0_49 {p : Program} {l : Launch} {e : Env} {s : State} {m : MethodId} {args : Array Value} {below : List Frame} {meth : Method} {c : Code} {D : va_G} {cy : Nat → ClassId} {ad st : Nat → Nat} (C : Cx RX5 cX5_faultBy 3 (some .int) wsX5_faultBy p s m args meth c) (hK : Kx D [(cy 0, .int), (cy 1, .long), (cy 2, .boolean), (cy 3, .byte), (cy 4, .object "HissHorn$Text")] st s) (hJ : JX ad) {r : Int32} {u' : SX}   (u : SX) (H : Heap) (locs : List Loc) (ls : Array Slot) (h : GX5_faultBy_2_as0_49  u = some (r, u')) (hP : va_P D vwCl (VX cy ad st u) H) (hS : va_S (Ax (AX ad) s.heap.size) s.heap H locs) (hl : lv_has ls 3 [(0, .ref (ad 2))]) : W p l e rmX5_faultBy_2_as0 s m args below meth c H locs 0 0 (MQ below (Qi D (VX cy ad st) (AX ad) s.heap.size r u') args s 0 0 (Ax (AX ad) s.heap.size)) (F0 m 49 ls []) := by
  unfold GX5_faultBy_2_as0_49 at h
  refine lv_goto (tgt := 58) C.1 C.2.1 dX5_faultBy_49 (by decide) ?_
  exact wGX5_faultBy_2_as0_58 C hK hJ _ _ _ _ h hP hS hl
set_option maxHeartbeats 4000000 in
set_option maxRecDepth 100000 in
theorem wX5_faultBy_2_as0 {p : Program} {l : Launch} {e : Env} {s : State} {m : MethodId} {args : Array Value} {below : List Frame} {meth : Method} {c : Code} {D : va_G} {cy : Nat → ClassId} {ad st : Nat → Nat} (C : Cx RX5 cX5_faultBy 3 (some .int) wsX5_faultBy p s m args meth c) (hK : Kx D [(cy 0, .int), (cy 1, .long), (cy 2, .boolean), (cy 3, .byte), (cy 4, .object "HissHorn$Text")] st s) (hJ : JX ad)  {u : SX} {r : Int32} {u' : SX} {H : Heap} {locs : List Loc} {ls : Array Slot} (h : fX5_faultBy_2_as0  u = some (r, u')) (hP : va_P D vwCl (VX cy ad st u) H) (hS : va_S (Ax (AX ad) s.heap.size) s.heap H locs) (hl : lv_has ls 3 [(0, .ref (ad 2)), (1, .ref (st 0))]) : W p l e rmX5_faultBy_2_as0 s m args below meth c H locs 0 0 (MQ below (Qi D (VX cy ad st) (AX ad) s.heap.size r u') args s 0 0 (Ax (AX ad) s.heap.size)) (F0 m 0 ls []) := by
  unfold fX5_faultBy_2_as0 at h
  refine lv_aload_n C.1 C.2.1 dX5_faultBy_0 rfl (lv_at hl 0 rfl) ?_
  refine lv_aload_n C.1 C.2.1 dX5_faultBy_1 rfl (lv_at hl 1 rfl) ?_
  refine pX_2_letters (v := 0) C hX5_faultBy_2_as0_X5 hK hP hJ hS mX5_faultBy_2_as0_1 dX5_faultBy_2 (fun H locs hP hS => ?_)
  obtain ⟨u1, hu2, h⟩ := lt_some h
  rw [← hu2] at hP
  refine lv_aload_n C.1 C.2.1 dX5_faultBy_5 rfl (lv_at hl 0 rfl) ?_
  refine lv_iconst (v := 0) C.1 C.2.1 dX5_faultBy_6 (by decide) ?_
  refine pX_2_at C hX5_faultBy_2_as0_X5 hK hP hJ hS mX5_faultBy_2_as0_2 dX5_faultBy_7 (fun H locs hP hS => ?_)
  obtain ⟨u3, hu4, h⟩ := lt_some h
  rw [← hu4] at hP
  refine lv_aload_n C.1 C.2.1 dX5_faultBy_10 rfl (lv_at hl 0 rfl) ?_
  refine lv_iconst (v := 0) C.1 C.2.1 dX5_faultBy_11 (by decide) ?_
  refine pX_2_size C hX5_faultBy_2_as0_X5 hK hP hJ hS mX5_faultBy_2_as0_3 dX5_faultBy_12 (fun H locs hP hS => ?_)
  obtain ⟨u5, hu6, h⟩ := lt_some h
  rw [← hu6] at hP
  refine lv_iconst (v := 0) C.1 C.2.1 dX5_faultBy_15 (by decide) ?_
  refine lv_istore_n (lv' := [(2, .int 0), (0, .ref (ad 2)), (1, .ref (st 0))]) C.1 C.2.1 dX5_faultBy_16 rfl hl (by decide) rfl (fun ls hl => ?_)
  replace hl := lv_sub (l' := [(0, .ref (ad 2)), (1, .ref (st 0)), (2, .int 0)]) hl [1, 2, 0] rfl
  exact wLX5_faultBy_2_as0_17 C hK hJ (wGX5_faultBy_2_as0_49 C hK hJ ) (wGX5_faultBy_2_as0_58 C hK hJ ) 5000 _ _ _ _ _ h hP hS (lv_sub hl [0, 2] rfl)
theorem metX5_faultBy_2_as0 (l : Launch) (D : va_G) (cy : Nat → ClassId) (ad st : Nat → Nat) (hJ : JX ad) (sz : Nat)  {u : SX} {r : Int32} {u' : SX} (h : fX5_faultBy_2_as0  u = some (r, u')) : Met l yX5_faultBy wsX5_faultBy rmX5_faultBy_2_as0 (va_Pc [.ref (ad 2), .ref (st 0)] (Px D [(cy 0, .int), (cy 1, .long), (cy 2, .boolean), (cy 3, .byte), (cy 4, .object "HissHorn$Text")] st (VX cy ad st) sz u)) (Qi D (VX cy ad st) (AX ad) sz r u') 0 0 (Ax (AX ad) sz) := by
  refine Met.ofW (cc := cX5_faultBy) (maxL := 3) (ret := (some .int)) (by decide) rfl ?_
  intro p e s m args below meth c s₁ B hml hv
  obtain ⟨rfl, hsz, hP, hK⟩ := hv
  subst hsz
  have C : Cx RX5 cX5_faultBy 3 (some .int) wsX5_faultBy p s m _ meth c := ⟨B.exec, B.bytes, hml, B.returns, findClass_of_methodNamed B.named, atoms_spec (ws := wsX5_faultBy) B.pre, B.notSynchronized⟩
  have hl := lv_entry ([.ref (ad 2), .ref (st 0)]) (n := 3) (Nat.le_of_ble_eq_true rfl)
  rw [lg_entry_eq]
  exact wX5_faultBy_2_as0 C hK hJ h hP va_S.rf hl

/-- HissHorn$Parser.faultBy(Ljava/lang/String;)I of cell 2 -/
def rmX5_faultBy_2_as1 : Room := { frames := 68, cells := 0, slots := 0, locals := 4185 }
theorem hX5_faultBy_2_as1_X5 : ∀ w ∈ u_ws RX5 TX5 5, w ∈ wsX5_faultBy := fun w h => (List.mem_cons_of_mem _ (List.mem_append_left _ (List.mem_append_right _ h)))
theorem mX5_faultBy_2_as1_1 : Cond.fieldLink RX5 19 "HissHorn$Parser" "letters" "Ljava/lang/String;" ∈ wsX5_faultBy := (List.mem_cons_of_mem _ (List.mem_append_left _ (List.mem_append_left _ (List.mem_append_left _ (List.mem_of_getElem? (i := 0) rfl)))))
theorem mX5_faultBy_2_as1_2 : Cond.fieldLink RX5 27 "HissHorn$Parser" "at" "I" ∈ wsX5_faultBy := (List.mem_cons_of_mem _ (List.mem_append_left _ (List.mem_append_left _ (List.mem_append_left _ (List.mem_of_getElem? (i := 1) rfl)))))
theorem mX5_faultBy_2_as1_3 : Cond.fieldLink RX5 31 "HissHorn$Parser" "size" "I" ∈ wsX5_faultBy := (List.mem_cons_of_mem _ (List.mem_append_left _ (List.mem_append_left _ (List.mem_append_left _ (List.mem_of_getElem? (i := 2) rfl)))))
theorem mX5_faultBy_2_as1_4 : Cond.fieldLink RX5 23 "HissHorn$Parser" "tape" "LHissHorn$Tape;" ∈ wsX5_faultBy := (List.mem_cons_of_mem _ (List.mem_append_left _ (List.mem_append_left _ (List.mem_append_left _ (List.mem_of_getElem? (i := 3) rfl)))))
theorem hX5_faultBy_2_as1_X9 : ∀ w ∈ u_ws RX9 TX9 2, w ∈ wsX5_faultBy := fun w h => (List.mem_cons_of_mem _ (List.mem_append_right _ h))
theorem mX5_faultBy_2_as1_6 : Cond.fieldLink RX5 34 "HissHorn$Tape" "length" "I" ∈ wsX5_faultBy := (List.mem_cons_of_mem _ (List.mem_append_left _ (List.mem_append_left _ (List.mem_append_left _ (List.mem_of_getElem? (i := 4) rfl)))))
def LX5_faultBy_2_as1_17 (k49 : SX → Option (Int32 × SX)) (k58 : SX → Option (Int32 × SX)) : Nat → Int32 → SX → Option (Int32 × SX)
  | 0, _, _ => none
  | n + 1, z2, u => (if (u.1 1) < z2 then (k58 u) else ((fX5_clause_2  u).bind fun q => match q with | (r7, u8) => (if r7 = 0 then (some (u8.1 4, u8)) else ((fX5_takes_2 59 u8).bind fun q => match q with | (r10, u11) => (if r10 = 0 then (k49 u11) else ((LX5_faultBy_2_as1_17 k49 k58 n) (z2 + 1) u11))))))
def GX5_faultBy_2_as1_58  (u : SX) : Option (Int32 × SX) := ((fX5_peek_2  u).bind fun q => match q with | (r13, u14) => (if r13 = 0 then (some ((-1), u14)) else (some (u14.1 4, u14))))
def GX5_faultBy_2_as1_49  (u : SX) : Option (Int32 × SX) := (GX5_faultBy_2_as1_58 u)
def fX5_faultBy_2_as1  (u : SX) : Option (Int32 × SX) := (lt (sI u 3 1) fun u1 => (lt (sI u1 4 0) fun u3 => (lt (sI u3 2 0) fun u5 => (LX5_faultBy_2_as1_17 GX5_faultBy_2_as1_49 GX5_faultBy_2_as1_58 5000 0 u5))))
set_option maxHeartbeats 4000000 in
set_option maxRecDepth 100000 in
theorem wLX5_faultBy_2_as1_17 {p : Program} {l : Launch} {e : Env} {s : State} {m : MethodId} {args : Array Value} {below : List Frame} {meth : Method} {c : Code} {D : va_G} {cy : Nat → ClassId} {ad st : Nat → Nat} (C : Cx RX5 cX5_faultBy 3 (some .int) wsX5_faultBy p s m args meth c) (hK : Kx D [(cy 0, .int), (cy 1, .long), (cy 2, .boolean), (cy 3, .byte), (cy 4, .object "HissHorn$Text")] st s) (hJ : JX ad) {r : Int32} {u' : SX} {k49 : SX → Option (Int32 × SX)} {k58 : SX → Option (Int32 × SX)} (hk49 : ∀  (u : SX) (H : Heap) (locs : List Loc) (ls : Array Slot), k49 u = some (r, u') → va_P D vwCl (VX cy ad st u) H → va_S (Ax (AX ad) s.heap.size) s.heap H locs → lv_has ls 3 [(0, .ref (ad 2))] → W p l e rmX5_faultBy_2_as1 s m args below meth c H locs 0 0 (MQ below (Qi D (VX cy ad st) (AX ad) s.heap.size r u') args s 0 0 (Ax (AX ad) s.heap.size)) (F0 m 49 ls [])) (hk58 : ∀  (u : SX) (H : Heap) (locs : List Loc) (ls : Array Slot), k58 u = some (r, u') → va_P D vwCl (VX cy ad st u) H → va_S (Ax (AX ad) s.heap.size) s.heap H locs → lv_has ls 3 [(0, .ref (ad 2))] → W p l e rmX5_faultBy_2_as1 s m args below meth c H locs 0 0 (MQ below (Qi D (VX cy ad st) (AX ad) s.heap.size r u') args s 0 0 (Ax (AX ad) s.heap.size)) (F0 m 58 ls [])) : ∀ (n : Nat) (z2 : Int32) (u : SX) (H : Heap) (locs : List Loc) (ls : Array Slot), LX5_faultBy_2_as1_17 k49 k58 n z2 u = some (r, u') → va_P D vwCl (VX cy ad st u) H → va_S (Ax (AX ad) s.heap.size) s.heap H locs → lv_has ls 3 [(0, .ref (ad 2)), (2, .int z2)] → W p l e rmX5_faultBy_2_as1 s m args below meth c H locs 0 0 (MQ below (Qi D (VX cy ad st) (AX ad) s.heap.size r u') args s 0 0 (Ax (AX ad) s.heap.size)) (F0 m 17 ls []) := by
  intro n
  induction n with
  | zero =>
    intro z2 u H locs ls h
    exact absurd h (by intro q; cases q)
  | succ n ih =>
    intro z2 u H locs ls h hP hS hl
    rw [LX5_faultBy_2_as1_17] at h
    refine lv_iload_n C.1 C.2.1 dX5_faultBy_17 rfl (lv_at hl 1 rfl) ?_
    refine lv_aload_n C.1 C.2.1 dX5_faultBy_18 rfl (lv_at hl 0 rfl) ?_
    refine gX_2_tape C hX5_faultBy_2_as1_X5 hK hP mX5_faultBy_2_as1_4 dX5_faultBy_19 ?_
    refine gX_1_length C hX5_faultBy_2_as1_X9 hK hP mX5_faultBy_2_as1_6 dX5_faultBy_22 ?_
    refine lv_icmp_gt (tgt := 58) C.1 C.2.1 dX5_faultBy_25 (by decide) (fun c25 => ?_) (fun c25 => ?_)
    · rw [if_pos c25] at h
      exact hk58 _ _ _ _ h hP hS (lv_sub hl [0] rfl)
    · rw [if_neg c25] at h
      refine lv_aload_n C.1 C.2.1 dX5_faultBy_28 rfl (lv_at hl 0 rfl) ?_
      obtain ⟨⟨r7, u8⟩, hc9, h⟩ := bd_some h
      try dsimp only at h
      refine cg_i (As := []) (rest := []) C hK hP hS (metX5_clause_2 l D cy ad st hJ _  hc9) (cwV 0 C.2.2.2.2.2.1 gX5_faultBy_X5_clause rfl rfl rfl (by decide +kernel) ⟨(Nat.le_of_ble_eq_true rfl), (Nat.le_of_ble_eq_true rfl)⟩) 2 5 rfl rfl rfl hl.1 rfl (Nat.le_of_ble_eq_true rfl) dX5_faultBy_29 ⟨Nat.zero_le _, Nat.zero_le _⟩ (fun H locs hP hS => ?_)
      refine lv_if_ne (tgt := 40) C.1 C.2.1 dX5_faultBy_32 (by decide) (fun c32 => ?_) (fun c32 => ?_)
      · rw [if_neg c32] at h
        refine lv_aload_n C.1 C.2.1 dX5_faultBy_40 rfl (lv_at hl 0 rfl) ?_
        refine lv_bipush (v := 59) C.1 C.2.1 dX5_faultBy_41 (by decide) ?_
        obtain ⟨⟨r10, u11⟩, hc12, h⟩ := bd_some h
        try dsimp only at h
        refine cg_i (As := [.int 59]) (rest := []) C hK hP hS (metX5_takes_2 l D cy ad st hJ _ 59 hc12) (cwV 1 C.2.2.2.2.2.1 gX5_faultBy_X5_takes rfl rfl rfl (by decide +kernel) ⟨(Nat.le_of_ble_eq_true rfl), (Nat.le_of_ble_eq_true rfl)⟩) 2 5 rfl rfl rfl hl.1 rfl (Nat.le_of_ble_eq_true rfl) dX5_faultBy_43 ⟨Nat.zero_le _, Nat.zero_le _⟩ (fun H locs hP hS => ?_)
        refine lv_if_ne (tgt := 52) C.1 C.2.1 dX5_faultBy_46 (by decide) (fun c46 => ?_) (fun c46 => ?_)
        · rw [if_neg c46] at h
          refine lv_iinc (v := z2 + 1) (lv' := [(2, .int (z2 + 1)), (0, .ref (ad 2))]) C.1 C.2.1 dX5_faultBy_52 hl (k := 1) rfl rfl (by decide) rfl (fun ls hl => ?_)
          replace hl := lv_sub (l' := [(0, .ref (ad 2)), (2, .int (z2 + 1))]) hl [1, 0] rfl
          refine lv_goto (tgt := 17) C.1 C.2.1 dX5_faultBy_55 (by decide) ?_
          exact ih _ _ _ _ _ h hP hS hl
        · rw [if_pos c46] at h
          exact hk49 _ _ _ _ h hP hS (lv_sub hl [0] rfl)
      · rw [if_pos c32] at h
        refine lv_aload_n C.1 C.2.1 dX5_faultBy_35 rfl (lv_at hl 0 rfl) ?_
        refine gX_2_at C hX5_faultBy_2_as1_X5 hK hP mX5_faultBy_2_as1_2 dX5_faultBy_36 ?_
        cases h
        exact rt_i C hP hS dX5_faultBy_39
set_option maxHeartbeats 4000000 in
set_option maxRecDepth 100000 in
theorem wGX5_faultBy_2_as1_58 {p : Program} {l : Launch} {e : Env} {s : State} {m : MethodId} {args : Array Value} {below : List Frame} {meth : Method} {c : Code} {D : va_G} {cy : Nat → ClassId} {ad st : Nat → Nat} (C : Cx RX5 cX5_faultBy 3 (some .int) wsX5_faultBy p s m args meth c) (hK : Kx D [(cy 0, .int), (cy 1, .long), (cy 2, .boolean), (cy 3, .byte), (cy 4, .object "HissHorn$Text")] st s) (hJ : JX ad) {r : Int32} {u' : SX}   (u : SX) (H : Heap) (locs : List Loc) (ls : Array Slot) (h : GX5_faultBy_2_as1_58  u = some (r, u')) (hP : va_P D vwCl (VX cy ad st u) H) (hS : va_S (Ax (AX ad) s.heap.size) s.heap H locs) (hl : lv_has ls 3 [(0, .ref (ad 2))]) : W p l e rmX5_faultBy_2_as1 s m args below meth c H locs 0 0 (MQ below (Qi D (VX cy ad st) (AX ad) s.heap.size r u') args s 0 0 (Ax (AX ad) s.heap.size)) (F0 m 58 ls []) := by
  unfold GX5_faultBy_2_as1_58 at h
  refine lv_aload_n C.1 C.2.1 dX5_faultBy_58 rfl (lv_at hl 0 rfl) ?_
  obtain ⟨⟨r13, u14⟩, hc15, h⟩ := bd_some h
  try dsimp only at h
  refine cg_i (As := []) (rest := []) C hK hP hS (metX5_peek_2 l D cy ad st hJ _  hc15) (cwV 0 C.2.2.2.2.2.1 gX5_faultBy_X5_peek rfl rfl rfl (by decide +kernel) ⟨(Nat.le_of_ble_eq_true rfl), (Nat.le_of_ble_eq_true rfl)⟩) 2 5 rfl rfl rfl hl.1 rfl (Nat.le_of_ble_eq_true rfl) dX5_faultBy_59 ⟨Nat.zero_le _, Nat.zero_le _⟩ (fun H locs hP hS => ?_)
  refine lv_if_ne (tgt := 69) C.1 C.2.1 dX5_faultBy_62 (by decide) (fun c62 => ?_) (fun c62 => ?_)
  · rw [if_neg c62] at h
    refine lv_aload_n C.1 C.2.1 dX5_faultBy_69 rfl (lv_at hl 0 rfl) ?_
    refine gX_2_at C hX5_faultBy_2_as1_X5 hK hP mX5_faultBy_2_as1_2 dX5_faultBy_70 ?_
    cases h
    exact rt_i C hP hS dX5_faultBy_73
  · rw [if_pos c62] at h
    refine lv_iconst (v := (-1)) C.1 C.2.1 dX5_faultBy_65 (by decide) ?_
    refine lv_goto (tgt := 73) C.1 C.2.1 dX5_faultBy_66 (by decide) ?_
    cases h
    exact rt_i C hP hS dX5_faultBy_73
set_option maxHeartbeats 4000000 in
set_option maxRecDepth 100000 in
theorem wGX5_faultBy_2_as1_49 {p : Program} {l : Launch} {e : Env} {s : State} {m : MethodId} {args : Array Value} {below : List Frame} {meth : Method} {c : Code} {D : va_G} {cy : Nat → ClassId} {ad st : Nat → Nat} (C : Cx RX5 cX5_faultBy 3 (some .int) wsX5_faultBy p s m args meth c) (hK : Kx D [(cy 0, .int), (cy 1, .long), (cy 2, .boolean), (cy 3, .byte), (cy 4, .object "HissHorn$Text")] st s) (hJ : JX ad) {r : Int32} {u' : SX}   (u : SX) (H : Heap) (locs : List Loc) (ls : Array Slot) (h : GX5_faultBy_2_as1_49  u = some (r, u')) (hP : va_P D vwCl (VX cy ad st u) H) (hS : va_S (Ax (AX ad) s.heap.size) s.heap H locs) (hl : lv_has ls 3 [(0, .ref (ad 2))]) : W p l e rmX5_faultBy_2_as1 s m args below meth c H locs 0 0 (MQ below (Qi D (VX cy ad st) (AX ad) s.heap.size r u') args s 0 0 (Ax (AX ad) s.heap.size)) (F0 m 49 ls []) := by
  unfold GX5_faultBy_2_as1_49 at h
  refine lv_goto (tgt := 58) C.1 C.2.1 dX5_faultBy_49 (by decide) ?_
  exact wGX5_faultBy_2_as1_58 C hK hJ _ _ _ _ h hP hS hl
set_option maxHeartbeats 4000000 in
set_option maxRecDepth 100000 in
theorem wX5_faultBy_2_as1 {p : Program} {l : Launch} {e : Env} {s : State} {m : MethodId} {args : Array Value} {below : List Frame} {meth : Method} {c : Code} {D : va_G} {cy : Nat → ClassId} {ad st : Nat → Nat} (C : Cx RX5 cX5_faultBy 3 (some .int) wsX5_faultBy p s m args meth c) (hK : Kx D [(cy 0, .int), (cy 1, .long), (cy 2, .boolean), (cy 3, .byte), (cy 4, .object "HissHorn$Text")] st s) (hJ : JX ad)  {u : SX} {r : Int32} {u' : SX} {H : Heap} {locs : List Loc} {ls : Array Slot} (h : fX5_faultBy_2_as1  u = some (r, u')) (hP : va_P D vwCl (VX cy ad st u) H) (hS : va_S (Ax (AX ad) s.heap.size) s.heap H locs) (hl : lv_has ls 3 [(0, .ref (ad 2)), (1, .ref (st 1))]) : W p l e rmX5_faultBy_2_as1 s m args below meth c H locs 0 0 (MQ below (Qi D (VX cy ad st) (AX ad) s.heap.size r u') args s 0 0 (Ax (AX ad) s.heap.size)) (F0 m 0 ls []) := by
  unfold fX5_faultBy_2_as1 at h
  refine lv_aload_n C.1 C.2.1 dX5_faultBy_0 rfl (lv_at hl 0 rfl) ?_
  refine lv_aload_n C.1 C.2.1 dX5_faultBy_1 rfl (lv_at hl 1 rfl) ?_
  refine pX_2_letters (v := 1) C hX5_faultBy_2_as1_X5 hK hP hJ hS mX5_faultBy_2_as1_1 dX5_faultBy_2 (fun H locs hP hS => ?_)
  obtain ⟨u1, hu2, h⟩ := lt_some h
  rw [← hu2] at hP
  refine lv_aload_n C.1 C.2.1 dX5_faultBy_5 rfl (lv_at hl 0 rfl) ?_
  refine lv_iconst (v := 0) C.1 C.2.1 dX5_faultBy_6 (by decide) ?_
  refine pX_2_at C hX5_faultBy_2_as1_X5 hK hP hJ hS mX5_faultBy_2_as1_2 dX5_faultBy_7 (fun H locs hP hS => ?_)
  obtain ⟨u3, hu4, h⟩ := lt_some h
  rw [← hu4] at hP
  refine lv_aload_n C.1 C.2.1 dX5_faultBy_10 rfl (lv_at hl 0 rfl) ?_
  refine lv_iconst (v := 0) C.1 C.2.1 dX5_faultBy_11 (by decide) ?_
  refine pX_2_size C hX5_faultBy_2_as1_X5 hK hP hJ hS mX5_faultBy_2_as1_3 dX5_faultBy_12 (fun H locs hP hS => ?_)
  obtain ⟨u5, hu6, h⟩ := lt_some h
  rw [← hu6] at hP
  refine lv_iconst (v := 0) C.1 C.2.1 dX5_faultBy_15 (by decide) ?_
  refine lv_istore_n (lv' := [(2, .int 0), (0, .ref (ad 2)), (1, .ref (st 1))]) C.1 C.2.1 dX5_faultBy_16 rfl hl (by decide) rfl (fun ls hl => ?_)
  replace hl := lv_sub (l' := [(0, .ref (ad 2)), (1, .ref (st 1)), (2, .int 0)]) hl [1, 2, 0] rfl
  exact wLX5_faultBy_2_as1_17 C hK hJ (wGX5_faultBy_2_as1_49 C hK hJ ) (wGX5_faultBy_2_as1_58 C hK hJ ) 5000 _ _ _ _ _ h hP hS (lv_sub hl [0, 2] rfl)
theorem metX5_faultBy_2_as1 (l : Launch) (D : va_G) (cy : Nat → ClassId) (ad st : Nat → Nat) (hJ : JX ad) (sz : Nat)  {u : SX} {r : Int32} {u' : SX} (h : fX5_faultBy_2_as1  u = some (r, u')) : Met l yX5_faultBy wsX5_faultBy rmX5_faultBy_2_as1 (va_Pc [.ref (ad 2), .ref (st 1)] (Px D [(cy 0, .int), (cy 1, .long), (cy 2, .boolean), (cy 3, .byte), (cy 4, .object "HissHorn$Text")] st (VX cy ad st) sz u)) (Qi D (VX cy ad st) (AX ad) sz r u') 0 0 (Ax (AX ad) sz) := by
  refine Met.ofW (cc := cX5_faultBy) (maxL := 3) (ret := (some .int)) (by decide) rfl ?_
  intro p e s m args below meth c s₁ B hml hv
  obtain ⟨rfl, hsz, hP, hK⟩ := hv
  subst hsz
  have C : Cx RX5 cX5_faultBy 3 (some .int) wsX5_faultBy p s m _ meth c := ⟨B.exec, B.bytes, hml, B.returns, findClass_of_methodNamed B.named, atoms_spec (ws := wsX5_faultBy) B.pre, B.notSynchronized⟩
  have hl := lv_entry ([.ref (ad 2), .ref (st 1)]) (n := 3) (Nat.le_of_ble_eq_true rfl)
  rw [lg_entry_eq]
  exact wX5_faultBy_2_as1 C hK hJ h hP va_S.rf hl

/-- HissHorn$Parser.faultBy(Ljava/lang/String;)I of cell 2 -/
def rmX5_faultBy_2_as2 : Room := { frames := 68, cells := 0, slots := 0, locals := 4185 }
theorem hX5_faultBy_2_as2_X5 : ∀ w ∈ u_ws RX5 TX5 5, w ∈ wsX5_faultBy := fun w h => (List.mem_cons_of_mem _ (List.mem_append_left _ (List.mem_append_right _ h)))
theorem mX5_faultBy_2_as2_1 : Cond.fieldLink RX5 19 "HissHorn$Parser" "letters" "Ljava/lang/String;" ∈ wsX5_faultBy := (List.mem_cons_of_mem _ (List.mem_append_left _ (List.mem_append_left _ (List.mem_append_left _ (List.mem_of_getElem? (i := 0) rfl)))))
theorem mX5_faultBy_2_as2_2 : Cond.fieldLink RX5 27 "HissHorn$Parser" "at" "I" ∈ wsX5_faultBy := (List.mem_cons_of_mem _ (List.mem_append_left _ (List.mem_append_left _ (List.mem_append_left _ (List.mem_of_getElem? (i := 1) rfl)))))
theorem mX5_faultBy_2_as2_3 : Cond.fieldLink RX5 31 "HissHorn$Parser" "size" "I" ∈ wsX5_faultBy := (List.mem_cons_of_mem _ (List.mem_append_left _ (List.mem_append_left _ (List.mem_append_left _ (List.mem_of_getElem? (i := 2) rfl)))))
theorem mX5_faultBy_2_as2_4 : Cond.fieldLink RX5 23 "HissHorn$Parser" "tape" "LHissHorn$Tape;" ∈ wsX5_faultBy := (List.mem_cons_of_mem _ (List.mem_append_left _ (List.mem_append_left _ (List.mem_append_left _ (List.mem_of_getElem? (i := 3) rfl)))))
theorem hX5_faultBy_2_as2_X9 : ∀ w ∈ u_ws RX9 TX9 2, w ∈ wsX5_faultBy := fun w h => (List.mem_cons_of_mem _ (List.mem_append_right _ h))
theorem mX5_faultBy_2_as2_6 : Cond.fieldLink RX5 34 "HissHorn$Tape" "length" "I" ∈ wsX5_faultBy := (List.mem_cons_of_mem _ (List.mem_append_left _ (List.mem_append_left _ (List.mem_append_left _ (List.mem_of_getElem? (i := 4) rfl)))))
def LX5_faultBy_2_as2_17 (k49 : SX → Option (Int32 × SX)) (k58 : SX → Option (Int32 × SX)) : Nat → Int32 → SX → Option (Int32 × SX)
  | 0, _, _ => none
  | n + 1, z2, u => (if (u.1 1) < z2 then (k58 u) else ((fX5_clause_2  u).bind fun q => match q with | (r7, u8) => (if r7 = 0 then (some (u8.1 4, u8)) else ((fX5_takes_2 59 u8).bind fun q => match q with | (r10, u11) => (if r10 = 0 then (k49 u11) else ((LX5_faultBy_2_as2_17 k49 k58 n) (z2 + 1) u11))))))
def GX5_faultBy_2_as2_58  (u : SX) : Option (Int32 × SX) := ((fX5_peek_2  u).bind fun q => match q with | (r13, u14) => (if r13 = 0 then (some ((-1), u14)) else (some (u14.1 4, u14))))
def GX5_faultBy_2_as2_49  (u : SX) : Option (Int32 × SX) := (GX5_faultBy_2_as2_58 u)
def fX5_faultBy_2_as2  (u : SX) : Option (Int32 × SX) := (lt (sI u 3 2) fun u1 => (lt (sI u1 4 0) fun u3 => (lt (sI u3 2 0) fun u5 => (LX5_faultBy_2_as2_17 GX5_faultBy_2_as2_49 GX5_faultBy_2_as2_58 5000 0 u5))))
set_option maxHeartbeats 4000000 in
set_option maxRecDepth 100000 in
theorem wLX5_faultBy_2_as2_17 {p : Program} {l : Launch} {e : Env} {s : State} {m : MethodId} {args : Array Value} {below : List Frame} {meth : Method} {c : Code} {D : va_G} {cy : Nat → ClassId} {ad st : Nat → Nat} (C : Cx RX5 cX5_faultBy 3 (some .int) wsX5_faultBy p s m args meth c) (hK : Kx D [(cy 0, .int), (cy 1, .long), (cy 2, .boolean), (cy 3, .byte), (cy 4, .object "HissHorn$Text")] st s) (hJ : JX ad) {r : Int32} {u' : SX} {k49 : SX → Option (Int32 × SX)} {k58 : SX → Option (Int32 × SX)} (hk49 : ∀  (u : SX) (H : Heap) (locs : List Loc) (ls : Array Slot), k49 u = some (r, u') → va_P D vwCl (VX cy ad st u) H → va_S (Ax (AX ad) s.heap.size) s.heap H locs → lv_has ls 3 [(0, .ref (ad 2))] → W p l e rmX5_faultBy_2_as2 s m args below meth c H locs 0 0 (MQ below (Qi D (VX cy ad st) (AX ad) s.heap.size r u') args s 0 0 (Ax (AX ad) s.heap.size)) (F0 m 49 ls [])) (hk58 : ∀  (u : SX) (H : Heap) (locs : List Loc) (ls : Array Slot), k58 u = some (r, u') → va_P D vwCl (VX cy ad st u) H → va_S (Ax (AX ad) s.heap.size) s.heap H locs → lv_has ls 3 [(0, .ref (ad 2))] → W p l e rmX5_faultBy_2_as2 s m args below meth c H locs 0 0 (MQ below (Qi D (VX cy ad st) (AX ad) s.heap.size r u') args s 0 0 (Ax (AX ad) s.heap.size)) (F0 m 58 ls [])) : ∀ (n : Nat) (z2 : Int32) (u : SX) (H : Heap) (locs : List Loc) (ls : Array Slot), LX5_faultBy_2_as2_17 k49 k58 n z2 u = some (r, u') → va_P D vwCl (VX cy ad st u) H → va_S (Ax (AX ad) s.heap.size) s.heap H locs → lv_has ls 3 [(0, .ref (ad 2)), (2, .int z2)] → W p l e rmX5_faultBy_2_as2 s m args below meth c H locs 0 0 (MQ below (Qi D (VX cy ad st) (AX ad) s.heap.size r u') args s 0 0 (Ax (AX ad) s.heap.size)) (F0 m 17 ls []) := by
  intro n
  induction n with
  | zero =>
    intro z2 u H locs ls h
    exact absurd h (by intro q; cases q)
  | succ n ih =>
    intro z2 u H locs ls h hP hS hl
    rw [LX5_faultBy_2_as2_17] at h
    refine lv_iload_n C.1 C.2.1 dX5_faultBy_17 rfl (lv_at hl 1 rfl) ?_
    refine lv_aload_n C.1 C.2.1 dX5_faultBy_18 rfl (lv_at hl 0 rfl) ?_
    refine gX_2_tape C hX5_faultBy_2_as2_X5 hK hP mX5_faultBy_2_as2_4 dX5_faultBy_19 ?_
    refine gX_1_length C hX5_faultBy_2_as2_X9 hK hP mX5_faultBy_2_as2_6 dX5_faultBy_22 ?_
    refine lv_icmp_gt (tgt := 58) C.1 C.2.1 dX5_faultBy_25 (by decide) (fun c25 => ?_) (fun c25 => ?_)
    · rw [if_pos c25] at h
      exact hk58 _ _ _ _ h hP hS (lv_sub hl [0] rfl)
    · rw [if_neg c25] at h
      refine lv_aload_n C.1 C.2.1 dX5_faultBy_28 rfl (lv_at hl 0 rfl) ?_
      obtain ⟨⟨r7, u8⟩, hc9, h⟩ := bd_some h
      try dsimp only at h
      refine cg_i (As := []) (rest := []) C hK hP hS (metX5_clause_2 l D cy ad st hJ _  hc9) (cwV 0 C.2.2.2.2.2.1 gX5_faultBy_X5_clause rfl rfl rfl (by decide +kernel) ⟨(Nat.le_of_ble_eq_true rfl), (Nat.le_of_ble_eq_true rfl)⟩) 2 5 rfl rfl rfl hl.1 rfl (Nat.le_of_ble_eq_true rfl) dX5_faultBy_29 ⟨Nat.zero_le _, Nat.zero_le _⟩ (fun H locs hP hS => ?_)
      refine lv_if_ne (tgt := 40) C.1 C.2.1 dX5_faultBy_32 (by decide) (fun c32 => ?_) (fun c32 => ?_)
      · rw [if_neg c32] at h
        refine lv_aload_n C.1 C.2.1 dX5_faultBy_40 rfl (lv_at hl 0 rfl) ?_
        refine lv_bipush (v := 59) C.1 C.2.1 dX5_faultBy_41 (by decide) ?_
        obtain ⟨⟨r10, u11⟩, hc12, h⟩ := bd_some h
        try dsimp only at h
        refine cg_i (As := [.int 59]) (rest := []) C hK hP hS (metX5_takes_2 l D cy ad st hJ _ 59 hc12) (cwV 1 C.2.2.2.2.2.1 gX5_faultBy_X5_takes rfl rfl rfl (by decide +kernel) ⟨(Nat.le_of_ble_eq_true rfl), (Nat.le_of_ble_eq_true rfl)⟩) 2 5 rfl rfl rfl hl.1 rfl (Nat.le_of_ble_eq_true rfl) dX5_faultBy_43 ⟨Nat.zero_le _, Nat.zero_le _⟩ (fun H locs hP hS => ?_)
        refine lv_if_ne (tgt := 52) C.1 C.2.1 dX5_faultBy_46 (by decide) (fun c46 => ?_) (fun c46 => ?_)
        · rw [if_neg c46] at h
          refine lv_iinc (v := z2 + 1) (lv' := [(2, .int (z2 + 1)), (0, .ref (ad 2))]) C.1 C.2.1 dX5_faultBy_52 hl (k := 1) rfl rfl (by decide) rfl (fun ls hl => ?_)
          replace hl := lv_sub (l' := [(0, .ref (ad 2)), (2, .int (z2 + 1))]) hl [1, 0] rfl
          refine lv_goto (tgt := 17) C.1 C.2.1 dX5_faultBy_55 (by decide) ?_
          exact ih _ _ _ _ _ h hP hS hl
        · rw [if_pos c46] at h
          exact hk49 _ _ _ _ h hP hS (lv_sub hl [0] rfl)
      · rw [if_pos c32] at h
        refine lv_aload_n C.1 C.2.1 dX5_faultBy_35 rfl (lv_at hl 0 rfl) ?_
        refine gX_2_at C hX5_faultBy_2_as2_X5 hK hP mX5_faultBy_2_as2_2 dX5_faultBy_36 ?_
        cases h
        exact rt_i C hP hS dX5_faultBy_39
set_option maxHeartbeats 4000000 in
set_option maxRecDepth 100000 in
theorem wGX5_faultBy_2_as2_58 {p : Program} {l : Launch} {e : Env} {s : State} {m : MethodId} {args : Array Value} {below : List Frame} {meth : Method} {c : Code} {D : va_G} {cy : Nat → ClassId} {ad st : Nat → Nat} (C : Cx RX5 cX5_faultBy 3 (some .int) wsX5_faultBy p s m args meth c) (hK : Kx D [(cy 0, .int), (cy 1, .long), (cy 2, .boolean), (cy 3, .byte), (cy 4, .object "HissHorn$Text")] st s) (hJ : JX ad) {r : Int32} {u' : SX}   (u : SX) (H : Heap) (locs : List Loc) (ls : Array Slot) (h : GX5_faultBy_2_as2_58  u = some (r, u')) (hP : va_P D vwCl (VX cy ad st u) H) (hS : va_S (Ax (AX ad) s.heap.size) s.heap H locs) (hl : lv_has ls 3 [(0, .ref (ad 2))]) : W p l e rmX5_faultBy_2_as2 s m args below meth c H locs 0 0 (MQ below (Qi D (VX cy ad st) (AX ad) s.heap.size r u') args s 0 0 (Ax (AX ad) s.heap.size)) (F0 m 58 ls []) := by
  unfold GX5_faultBy_2_as2_58 at h
  refine lv_aload_n C.1 C.2.1 dX5_faultBy_58 rfl (lv_at hl 0 rfl) ?_
  obtain ⟨⟨r13, u14⟩, hc15, h⟩ := bd_some h
  try dsimp only at h
  refine cg_i (As := []) (rest := []) C hK hP hS (metX5_peek_2 l D cy ad st hJ _  hc15) (cwV 0 C.2.2.2.2.2.1 gX5_faultBy_X5_peek rfl rfl rfl (by decide +kernel) ⟨(Nat.le_of_ble_eq_true rfl), (Nat.le_of_ble_eq_true rfl)⟩) 2 5 rfl rfl rfl hl.1 rfl (Nat.le_of_ble_eq_true rfl) dX5_faultBy_59 ⟨Nat.zero_le _, Nat.zero_le _⟩ (fun H locs hP hS => ?_)
  refine lv_if_ne (tgt := 69) C.1 C.2.1 dX5_faultBy_62 (by decide) (fun c62 => ?_) (fun c62 => ?_)
  · rw [if_neg c62] at h
    refine lv_aload_n C.1 C.2.1 dX5_faultBy_69 rfl (lv_at hl 0 rfl) ?_
    refine gX_2_at C hX5_faultBy_2_as2_X5 hK hP mX5_faultBy_2_as2_2 dX5_faultBy_70 ?_
    cases h
    exact rt_i C hP hS dX5_faultBy_73
  · rw [if_pos c62] at h
    refine lv_iconst (v := (-1)) C.1 C.2.1 dX5_faultBy_65 (by decide) ?_
    refine lv_goto (tgt := 73) C.1 C.2.1 dX5_faultBy_66 (by decide) ?_
    cases h
    exact rt_i C hP hS dX5_faultBy_73
set_option maxHeartbeats 4000000 in
set_option maxRecDepth 100000 in
theorem wGX5_faultBy_2_as2_49 {p : Program} {l : Launch} {e : Env} {s : State} {m : MethodId} {args : Array Value} {below : List Frame} {meth : Method} {c : Code} {D : va_G} {cy : Nat → ClassId} {ad st : Nat → Nat} (C : Cx RX5 cX5_faultBy 3 (some .int) wsX5_faultBy p s m args meth c) (hK : Kx D [(cy 0, .int), (cy 1, .long), (cy 2, .boolean), (cy 3, .byte), (cy 4, .object "HissHorn$Text")] st s) (hJ : JX ad) {r : Int32} {u' : SX}   (u : SX) (H : Heap) (locs : List Loc) (ls : Array Slot) (h : GX5_faultBy_2_as2_49  u = some (r, u')) (hP : va_P D vwCl (VX cy ad st u) H) (hS : va_S (Ax (AX ad) s.heap.size) s.heap H locs) (hl : lv_has ls 3 [(0, .ref (ad 2))]) : W p l e rmX5_faultBy_2_as2 s m args below meth c H locs 0 0 (MQ below (Qi D (VX cy ad st) (AX ad) s.heap.size r u') args s 0 0 (Ax (AX ad) s.heap.size)) (F0 m 49 ls []) := by
  unfold GX5_faultBy_2_as2_49 at h
  refine lv_goto (tgt := 58) C.1 C.2.1 dX5_faultBy_49 (by decide) ?_
  exact wGX5_faultBy_2_as2_58 C hK hJ _ _ _ _ h hP hS hl
set_option maxHeartbeats 4000000 in
set_option maxRecDepth 100000 in
theorem wX5_faultBy_2_as2 {p : Program} {l : Launch} {e : Env} {s : State} {m : MethodId} {args : Array Value} {below : List Frame} {meth : Method} {c : Code} {D : va_G} {cy : Nat → ClassId} {ad st : Nat → Nat} (C : Cx RX5 cX5_faultBy 3 (some .int) wsX5_faultBy p s m args meth c) (hK : Kx D [(cy 0, .int), (cy 1, .long), (cy 2, .boolean), (cy 3, .byte), (cy 4, .object "HissHorn$Text")] st s) (hJ : JX ad)  {u : SX} {r : Int32} {u' : SX} {H : Heap} {locs : List Loc} {ls : Array Slot} (h : fX5_faultBy_2_as2  u = some (r, u')) (hP : va_P D vwCl (VX cy ad st u) H) (hS : va_S (Ax (AX ad) s.heap.size) s.heap H locs) (hl : lv_has ls 3 [(0, .ref (ad 2)), (1, .ref (st 2))]) : W p l e rmX5_faultBy_2_as2 s m args below meth c H locs 0 0 (MQ below (Qi D (VX cy ad st) (AX ad) s.heap.size r u') args s 0 0 (Ax (AX ad) s.heap.size)) (F0 m 0 ls []) := by
  unfold fX5_faultBy_2_as2 at h
  refine lv_aload_n C.1 C.2.1 dX5_faultBy_0 rfl (lv_at hl 0 rfl) ?_
  refine lv_aload_n C.1 C.2.1 dX5_faultBy_1 rfl (lv_at hl 1 rfl) ?_
  refine pX_2_letters (v := 2) C hX5_faultBy_2_as2_X5 hK hP hJ hS mX5_faultBy_2_as2_1 dX5_faultBy_2 (fun H locs hP hS => ?_)
  obtain ⟨u1, hu2, h⟩ := lt_some h
  rw [← hu2] at hP
  refine lv_aload_n C.1 C.2.1 dX5_faultBy_5 rfl (lv_at hl 0 rfl) ?_
  refine lv_iconst (v := 0) C.1 C.2.1 dX5_faultBy_6 (by decide) ?_
  refine pX_2_at C hX5_faultBy_2_as2_X5 hK hP hJ hS mX5_faultBy_2_as2_2 dX5_faultBy_7 (fun H locs hP hS => ?_)
  obtain ⟨u3, hu4, h⟩ := lt_some h
  rw [← hu4] at hP
  refine lv_aload_n C.1 C.2.1 dX5_faultBy_10 rfl (lv_at hl 0 rfl) ?_
  refine lv_iconst (v := 0) C.1 C.2.1 dX5_faultBy_11 (by decide) ?_
  refine pX_2_size C hX5_faultBy_2_as2_X5 hK hP hJ hS mX5_faultBy_2_as2_3 dX5_faultBy_12 (fun H locs hP hS => ?_)
  obtain ⟨u5, hu6, h⟩ := lt_some h
  rw [← hu6] at hP
  refine lv_iconst (v := 0) C.1 C.2.1 dX5_faultBy_15 (by decide) ?_
  refine lv_istore_n (lv' := [(2, .int 0), (0, .ref (ad 2)), (1, .ref (st 2))]) C.1 C.2.1 dX5_faultBy_16 rfl hl (by decide) rfl (fun ls hl => ?_)
  replace hl := lv_sub (l' := [(0, .ref (ad 2)), (1, .ref (st 2)), (2, .int 0)]) hl [1, 2, 0] rfl
  exact wLX5_faultBy_2_as2_17 C hK hJ (wGX5_faultBy_2_as2_49 C hK hJ ) (wGX5_faultBy_2_as2_58 C hK hJ ) 5000 _ _ _ _ _ h hP hS (lv_sub hl [0, 2] rfl)
theorem metX5_faultBy_2_as2 (l : Launch) (D : va_G) (cy : Nat → ClassId) (ad st : Nat → Nat) (hJ : JX ad) (sz : Nat)  {u : SX} {r : Int32} {u' : SX} (h : fX5_faultBy_2_as2  u = some (r, u')) : Met l yX5_faultBy wsX5_faultBy rmX5_faultBy_2_as2 (va_Pc [.ref (ad 2), .ref (st 2)] (Px D [(cy 0, .int), (cy 1, .long), (cy 2, .boolean), (cy 3, .byte), (cy 4, .object "HissHorn$Text")] st (VX cy ad st) sz u)) (Qi D (VX cy ad st) (AX ad) sz r u') 0 0 (Ax (AX ad) sz) := by
  refine Met.ofW (cc := cX5_faultBy) (maxL := 3) (ret := (some .int)) (by decide) rfl ?_
  intro p e s m args below meth c s₁ B hml hv
  obtain ⟨rfl, hsz, hP, hK⟩ := hv
  subst hsz
  have C : Cx RX5 cX5_faultBy 3 (some .int) wsX5_faultBy p s m _ meth c := ⟨B.exec, B.bytes, hml, B.returns, findClass_of_methodNamed B.named, atoms_spec (ws := wsX5_faultBy) B.pre, B.notSynchronized⟩
  have hl := lv_entry ([.ref (ad 2), .ref (st 2)]) (n := 3) (Nat.le_of_ble_eq_true rfl)
  rw [lg_entry_eq]
  exact wX5_faultBy_2_as2 C hK hJ h hP va_S.rf hl

theorem dX11_fault_0 : decode cX11_fault 0 = .ok (.aload_n 0, 1) := by decide +kernel
theorem dX11_fault_1 : decode cX11_fault 1 = .ok (.iload_n 1, 1) := by decide +kernel
set_option maxRecDepth 20000 in
theorem ggX11_fault_X11_shelfOf : GoodIn wsX11_fault wsX11_shelfOf := goodIn_r _ [7, 8, 9, 10, 151, 152, 153, 154, 155, 156, 157, 158, 159, 160, 161, 162, 163] (by decide +kernel) (by decide +kernel)
set_option maxRecDepth 20000 in
theorem gX11_fault_X11_shelfOf : GoodIn wsX11_fault (wsV RX11 122 RX11 yX11_shelfOf wsX11_shelfOf) := goodIn_app (goodIn_of _ (by decide +kernel)) ggX11_fault_X11_shelfOf
theorem dX11_fault_2 : decode cX11_fault 2 = .ok (.invokevirtual 122, 3) := by decide +kernel
theorem dX11_fault_5 : decode cX11_fault 5 = .ok (.astore_n 2, 1) := by decide +kernel
theorem dX11_fault_6 : decode cX11_fault 6 = .ok (.aload_n 2, 1) := by decide +kernel
theorem dX11_fault_7 : decode cX11_fault 7 = .ok (.ifnonnull 8, 3) := by decide +kernel
theorem dX11_fault_10 : decode cX11_fault 10 = .ok (.bipush (-2), 2) := by decide +kernel
theorem dX11_fault_12 : decode cX11_fault 12 = .ok (.goto 14, 3) := by decide +kernel
theorem dX11_fault_26 : decode cX11_fault 26 = .ok (.ireturn, 1) := by decide +kernel
theorem dX11_fault_15 : decode cX11_fault 15 = .ok (.aload_n 0, 1) := by decide +kernel
theorem dX11_fault_16 : decode cX11_fault 16 = .ok (.getfield 21, 3) := by decide +kernel
theorem dX11_fault_19 : decode cX11_fault 19 = .ok (.aload_n 2, 1) := by decide +kernel
theorem dX11_fault_20 : decode cX11_fault 20 = .ok (.getfield 126, 3) := by decide +kernel
set_option maxRecDepth 20000 in
theorem ggX11_fault_X5_faultBy : GoodIn wsX11_fault wsX5_faultBy := goodIn_r _ [15, 16, 17, 18, 19, 20, 21, 22, 23, 14, 24, 25, 26, 27, 28, 29, 30, 31, 32, 33, 34, 35, 36, 37, 38, 39, 40, 41, 42, 43, 44, 45, 46, 47, 48, 49, 50, 51, 52, 53, 54, 55, 56, 57, 58, 59, 60, 61, 62, 63, 64, 65, 66, 67, 68, 69, 70, 71, 72, 73, 74, 75, 76, 77, 78, 79, 80, 81, 82, 83, 84, 85, 86, 87, 88, 89, 90, 91, 92, 93, 94, 95, 96, 97, 98, 99, 100, 101, 102, 103, 104, 105, 106, 107, 108, 109, 110, 111, 112, 113, 114, 115, 116, 117, 118, 119, 120, 121, 122, 123, 124, 125, 126, 127, 128, 129, 130, 131, 132, 133, 134, 135, 136, 137, 138, 139, 140, 141, 142, 143, 144, 145, 146, 147, 148, 149, 150, 169, 170, 171, 172, 173, 174, 175] (by decide +kernel) (by decide +kernel)
set_option maxRecDepth 20000 in
theorem gX11_fault_X5_faultBy : GoodIn wsX11_fault (wsV RX11 130 RX5 yX5_faultBy wsX5_faultBy) := goodIn_app (goodIn_of _ (by decide +kernel)) ggX11_fault_X5_faultBy
theorem dX11_fault_23 : decode cX11_fault 23 = .ok (.invokevirtual 130, 3) := by decide +kernel
/-- HissHorn.fault(I)I of cell 0 -/
def rmX11_fault_0 : Room := { frames := 69, cells := 0, slots := 0, locals := 4207 }
theorem hX11_fault_0_X11 : ∀ w ∈ u_ws RX11 TX11 13, w ∈ wsX11_fault := fun w h => (List.mem_cons_of_mem _ (List.mem_append_left _ (List.mem_append_left _ (List.mem_append_left _ (List.mem_append_right _ h)))))
theorem mX11_fault_0_1 : Cond.fieldLink RX11 21 "HissHorn" "parser" "LHissHorn$Parser;" ∈ wsX11_fault := (List.mem_cons_of_mem _ (List.mem_append_left _ (List.mem_append_left _ (List.mem_append_left _ (List.mem_append_left _ (List.mem_append_left _ (List.mem_of_getElem? (i := 0) rfl)))))))
theorem hX11_fault_0_X8 : ∀ w ∈ u_ws RX8 TX8 5, w ∈ wsX11_fault := fun w h => (List.mem_cons_of_mem _ (List.mem_append_left _ (List.mem_append_left _ (List.mem_append_right _ h))))
theorem mX11_fault_0_3 : Cond.fieldLink RX11 126 "HissHorn$Shelf" "letters" "Ljava/lang/String;" ∈ wsX11_fault := (List.mem_cons_of_mem _ (List.mem_append_left _ (List.mem_append_left _ (List.mem_append_left _ (List.mem_append_left _ (List.mem_append_left _ (List.mem_of_getElem? (i := 1) rfl)))))))
def fX11_fault_0 (x1 : Int32) (u : SX) : Option (Int32 × SX) := ((fX11_shelfOf_0 x1 u).bind fun q => match q with | (r1, u2) => (if r1 = 0 then (some ((-2), u2)) else (if r1 = 4 then ((fX5_faultBy_2_as0  u2).bind fun q => match q with | (r4, u5) => (some (r4, u5))) else (if r1 = 5 then ((fX5_faultBy_2_as1  u2).bind fun q => match q with | (r7, u8) => (some (r7, u8))) else (if r1 = 6 then ((fX5_faultBy_2_as2  u2).bind fun q => match q with | (r10, u11) => (some (r10, u11))) else none)))))
set_option maxHeartbeats 4000000 in
set_option maxRecDepth 100000 in
theorem wX11_fault_0 {p : Program} {l : Launch} {e : Env} {s : State} {m : MethodId} {args : Array Value} {below : List Frame} {meth : Method} {c : Code} {D : va_G} {cy : Nat → ClassId} {ad st : Nat → Nat} (C : Cx RX11 cX11_fault 3 (some .int) wsX11_fault p s m args meth c) (hK : Kx D [(cy 0, .int), (cy 1, .long), (cy 2, .boolean), (cy 3, .byte), (cy 4, .object "HissHorn$Text")] st s) (hJ : JX ad) (x1 : Int32) {u : SX} {r : Int32} {u' : SX} {H : Heap} {locs : List Loc} {ls : Array Slot} (h : fX11_fault_0 x1 u = some (r, u')) (hP : va_P D vwCl (VX cy ad st u) H) (hS : va_S (Ax (AX ad) s.heap.size) s.heap H locs) (hl : lv_has ls 3 [(0, .ref (ad 0)), (1, .int x1)]) : W p l e rmX11_fault_0 s m args below meth c H locs 0 0 (MQ below (Qi D (VX cy ad st) (AX ad) s.heap.size r u') args s 0 0 (Ax (AX ad) s.heap.size)) (F0 m 0 ls []) := by
  unfold fX11_fault_0 at h
  refine lv_aload_n C.1 C.2.1 dX11_fault_0 rfl (lv_at hl 0 rfl) ?_
  refine lv_iload_n C.1 C.2.1 dX11_fault_1 rfl (lv_at hl 1 rfl) ?_
  obtain ⟨⟨r1, u2⟩, hc3, h⟩ := bd_some h
  try dsimp only at h
  refine cg_q (As := [.int x1]) (rest := []) C hK hP hS (metX11_shelfOf_0 l D cy ad st hJ _ x1 hc3) (cwV 1 C.2.2.2.2.2.1 gX11_fault_X11_shelfOf rfl rfl rfl (by decide +kernel) ⟨(Nat.le_of_ble_eq_true rfl), (Nat.le_of_ble_eq_true rfl)⟩) 0 11 rfl rfl rfl hl.1 rfl (Nat.le_of_ble_eq_true rfl) dX11_fault_2 ⟨Nat.zero_le _, Nat.zero_le _⟩ (fun H locs hP hS => ?_)
  by_cases c2_0 : r1 = 0
  · rw [if_pos c2_0] at h
    subst c2_0
    refine W.eq (g2 := F0 m 5 ls [.null]) rfl ?_
    refine lv_astore_nN (lv' := [(2, .null), (0, .ref (ad 0)), (1, .int x1)]) C.1 C.2.1 dX11_fault_5 rfl hl (by decide) rfl (fun ls hl => ?_)
    replace hl := lv_sub (l' := [(0, .ref (ad 0)), (1, .int x1), (2, .null)]) hl [1, 2, 0] rfl
    refine lv_aload_nN C.1 C.2.1 dX11_fault_6 rfl (lv_at hl 2 rfl) ?_
    refine lv_ifnonnullN C.1 C.2.1 dX11_fault_7 ?_
    refine lv_bipush (v := (-2)) C.1 C.2.1 dX11_fault_10 (by decide) ?_
    refine lv_goto (tgt := 26) C.1 C.2.1 dX11_fault_12 (by decide) ?_
    cases h
    exact rt_i C hP hS dX11_fault_26
  · rw [if_neg c2_0] at h
    by_cases c2_4 : r1 = 4
    · rw [if_pos c2_4] at h
      subst c2_4
      refine W.eq (g2 := F0 m 5 ls [.ref (ad 3)]) rfl ?_
      refine lv_astore_n (lv' := [(2, .ref (ad 3)), (0, .ref (ad 0)), (1, .int x1)]) C.1 C.2.1 dX11_fault_5 rfl hl (by decide) rfl (fun ls hl => ?_)
      replace hl := lv_sub (l' := [(0, .ref (ad 0)), (1, .int x1), (2, .ref (ad 3))]) hl [1, 2, 0] rfl
      refine lv_aload_n C.1 C.2.1 dX11_fault_6 rfl (lv_at hl 2 rfl) ?_
      refine lv_ifnonnull (tgt := 15) C.1 C.2.1 dX11_fault_7 (by decide) ?_
      refine lv_aload_n C.1 C.2.1 dX11_fault_15 rfl (lv_at hl 0 rfl) ?_
      refine gX_0_parser C hX11_fault_0_X11 hK hP mX11_fault_0_1 dX11_fault_16 ?_
      refine lv_aload_n C.1 C.2.1 dX11_fault_19 rfl (lv_at hl 2 rfl) ?_
      refine gX_3_letters C hX11_fault_0_X8 hK hP mX11_fault_0_3 dX11_fault_20 ?_
      obtain ⟨⟨r4, u5⟩, hc6, h⟩ := bd_some h
      try dsimp only at h
      refine cg_i (As := [.ref (st 0)]) (rest := []) C hK hP hS (metX5_faultBy_2_as0 l D cy ad st hJ _  hc6) (cwV 1 C.2.2.2.2.2.1 gX11_fault_X5_faultBy rfl rfl rfl (by decide +kernel) ⟨(Nat.le_of_ble_eq_true rfl), (Nat.le_of_ble_eq_true rfl)⟩) 2 5 rfl rfl rfl hl.1 rfl (Nat.le_of_ble_eq_true rfl) dX11_fault_23 ⟨Nat.zero_le _, Nat.zero_le _⟩ (fun H locs hP hS => ?_)
      cases h
      exact rt_i C hP hS dX11_fault_26
    · rw [if_neg c2_4] at h
      by_cases c2_5 : r1 = 5
      · rw [if_pos c2_5] at h
        subst c2_5
        refine W.eq (g2 := F0 m 5 ls [.ref (ad 4)]) rfl ?_
        refine lv_astore_n (lv' := [(2, .ref (ad 4)), (0, .ref (ad 0)), (1, .int x1)]) C.1 C.2.1 dX11_fault_5 rfl hl (by decide) rfl (fun ls hl => ?_)
        replace hl := lv_sub (l' := [(0, .ref (ad 0)), (1, .int x1), (2, .ref (ad 4))]) hl [1, 2, 0] rfl
        refine lv_aload_n C.1 C.2.1 dX11_fault_6 rfl (lv_at hl 2 rfl) ?_
        refine lv_ifnonnull (tgt := 15) C.1 C.2.1 dX11_fault_7 (by decide) ?_
        refine lv_aload_n C.1 C.2.1 dX11_fault_15 rfl (lv_at hl 0 rfl) ?_
        refine gX_0_parser C hX11_fault_0_X11 hK hP mX11_fault_0_1 dX11_fault_16 ?_
        refine lv_aload_n C.1 C.2.1 dX11_fault_19 rfl (lv_at hl 2 rfl) ?_
        refine gX_4_letters C hX11_fault_0_X8 hK hP mX11_fault_0_3 dX11_fault_20 ?_
        obtain ⟨⟨r7, u8⟩, hc9, h⟩ := bd_some h
        try dsimp only at h
        refine cg_i (As := [.ref (st 1)]) (rest := []) C hK hP hS (metX5_faultBy_2_as1 l D cy ad st hJ _  hc9) (cwV 1 C.2.2.2.2.2.1 gX11_fault_X5_faultBy rfl rfl rfl (by decide +kernel) ⟨(Nat.le_of_ble_eq_true rfl), (Nat.le_of_ble_eq_true rfl)⟩) 2 5 rfl rfl rfl hl.1 rfl (Nat.le_of_ble_eq_true rfl) dX11_fault_23 ⟨Nat.zero_le _, Nat.zero_le _⟩ (fun H locs hP hS => ?_)
        cases h
        exact rt_i C hP hS dX11_fault_26
      · rw [if_neg c2_5] at h
        by_cases c2_6 : r1 = 6
        · rw [if_pos c2_6] at h
          subst c2_6
          refine W.eq (g2 := F0 m 5 ls [.ref (ad 5)]) rfl ?_
          refine lv_astore_n (lv' := [(2, .ref (ad 5)), (0, .ref (ad 0)), (1, .int x1)]) C.1 C.2.1 dX11_fault_5 rfl hl (by decide) rfl (fun ls hl => ?_)
          replace hl := lv_sub (l' := [(0, .ref (ad 0)), (1, .int x1), (2, .ref (ad 5))]) hl [1, 2, 0] rfl
          refine lv_aload_n C.1 C.2.1 dX11_fault_6 rfl (lv_at hl 2 rfl) ?_
          refine lv_ifnonnull (tgt := 15) C.1 C.2.1 dX11_fault_7 (by decide) ?_
          refine lv_aload_n C.1 C.2.1 dX11_fault_15 rfl (lv_at hl 0 rfl) ?_
          refine gX_0_parser C hX11_fault_0_X11 hK hP mX11_fault_0_1 dX11_fault_16 ?_
          refine lv_aload_n C.1 C.2.1 dX11_fault_19 rfl (lv_at hl 2 rfl) ?_
          refine gX_5_letters C hX11_fault_0_X8 hK hP mX11_fault_0_3 dX11_fault_20 ?_
          obtain ⟨⟨r10, u11⟩, hc12, h⟩ := bd_some h
          try dsimp only at h
          refine cg_i (As := [.ref (st 2)]) (rest := []) C hK hP hS (metX5_faultBy_2_as2 l D cy ad st hJ _  hc12) (cwV 1 C.2.2.2.2.2.1 gX11_fault_X5_faultBy rfl rfl rfl (by decide +kernel) ⟨(Nat.le_of_ble_eq_true rfl), (Nat.le_of_ble_eq_true rfl)⟩) 2 5 rfl rfl rfl hl.1 rfl (Nat.le_of_ble_eq_true rfl) dX11_fault_23 ⟨Nat.zero_le _, Nat.zero_le _⟩ (fun H locs hP hS => ?_)
          cases h
          exact rt_i C hP hS dX11_fault_26
        · rw [if_neg c2_6] at h
          exact absurd h (by intro q; cases q)
theorem metX11_fault_0 (l : Launch) (D : va_G) (cy : Nat → ClassId) (ad st : Nat → Nat) (hJ : JX ad) (sz : Nat) (x1 : Int32) {u : SX} {r : Int32} {u' : SX} (h : fX11_fault_0 x1 u = some (r, u')) : Met l yX11_fault wsX11_fault rmX11_fault_0 (va_Pc [.ref (ad 0), .int x1] (Px D [(cy 0, .int), (cy 1, .long), (cy 2, .boolean), (cy 3, .byte), (cy 4, .object "HissHorn$Text")] st (VX cy ad st) sz u)) (Qi D (VX cy ad st) (AX ad) sz r u') 0 0 (Ax (AX ad) sz) := by
  refine Met.ofW (cc := cX11_fault) (maxL := 3) (ret := (some .int)) (by decide) rfl ?_
  intro p e s m args below meth c s₁ B hml hv
  obtain ⟨rfl, hsz, hP, hK⟩ := hv
  subst hsz
  have C : Cx RX11 cX11_fault 3 (some .int) wsX11_fault p s m _ meth c := ⟨B.exec, B.bytes, hml, B.returns, findClass_of_methodNamed B.named, atoms_spec (ws := wsX11_fault) B.pre, B.notSynchronized⟩
  have hl := lv_entry ([.ref (ad 0), .int x1]) (n := 3) (Nat.le_of_ble_eq_true rfl)
  rw [lg_entry_eq]
  exact wX11_fault_0 C hK hJ x1 h hP va_S.rf hl

theorem dX8_isFull_0 : decode cX8_isFull 0 = .ok (.aload_n 0, 1) := by decide +kernel
theorem dX8_isFull_1 : decode cX8_isFull 1 = .ok (.getfield 36, 3) := by decide +kernel
theorem dX8_isFull_4 : decode cX8_isFull 4 = .ok (.aload_n 0, 1) := by decide +kernel
theorem dX8_isFull_5 : decode cX8_isFull 5 = .ok (.getfield 23, 3) := by decide +kernel
theorem dX8_isFull_8 : decode cX8_isFull 8 = .ok (.arraylength, 1) := by decide +kernel
theorem dX8_isFull_9 : decode cX8_isFull 9 = .ok (.if_icmp .lt 7, 3) := by decide +kernel
theorem dX8_isFull_16 : decode cX8_isFull 16 = .ok (.iconst 0, 1) := by decide +kernel
theorem dX8_isFull_17 : decode cX8_isFull 17 = .ok (.ireturn, 1) := by decide +kernel
theorem dX8_isFull_12 : decode cX8_isFull 12 = .ok (.iconst 1, 1) := by decide +kernel
theorem dX8_isFull_13 : decode cX8_isFull 13 = .ok (.goto 4, 3) := by decide +kernel
/-- HissHorn$Shelf.isFull()Z of cell 3 -/
def rmX8_isFull_3 : Room := { frames := 0, cells := 0, slots := 0, locals := 0 }
theorem hX8_isFull_3_X8 : ∀ w ∈ u_ws RX8 TX8 5, w ∈ wsX8_isFull := fun w h => (List.mem_cons_of_mem _ (List.mem_append_right _ h))
theorem mX8_isFull_3_1 : Cond.fieldLink RX8 36 "HissHorn$Shelf" "size" "I" ∈ wsX8_isFull := (List.mem_cons_of_mem _ (List.mem_append_left _ (List.mem_of_getElem? (i := 0) rfl)))
theorem mX8_isFull_3_2 : Cond.fieldLink RX8 23 "HissHorn$Shelf" "texts" "[LHissHorn$Text;" ∈ wsX8_isFull := (List.mem_cons_of_mem _ (List.mem_append_left _ (List.mem_of_getElem? (i := 1) rfl)))
def fX8_isFull_3  (u : SX) : Option (Int32 × SX) := (if (u.1 5) < 12 then (gd (isB 0) (some (0, u))) else (gd (isB 1) (some (1, u))))
set_option maxHeartbeats 4000000 in
set_option maxRecDepth 100000 in
theorem wX8_isFull_3 {p : Program} {l : Launch} {e : Env} {s : State} {m : MethodId} {args : Array Value} {below : List Frame} {meth : Method} {c : Code} {D : va_G} {cy : Nat → ClassId} {ad st : Nat → Nat} (C : Cx RX8 cX8_isFull 1 (some .boolean) wsX8_isFull p s m args meth c) (hK : Kx D [(cy 0, .int), (cy 1, .long), (cy 2, .boolean), (cy 3, .byte), (cy 4, .object "HissHorn$Text")] st s) (hJ : JX ad)  {u : SX} {r : Int32} {u' : SX} {H : Heap} {locs : List Loc} {ls : Array Slot} (h : fX8_isFull_3  u = some (r, u')) (hP : va_P D vwCl (VX cy ad st u) H) (hS : va_S (Ax (AX ad) s.heap.size) s.heap H locs) (hl : lv_has ls 1 [(0, .ref (ad 3))]) : W p l e rmX8_isFull_3 s m args below meth c H locs 0 0 (MQ below (Qi D (VX cy ad st) (AX ad) s.heap.size r u') args s 0 0 (Ax (AX ad) s.heap.size)) (F0 m 0 ls []) := by
  unfold fX8_isFull_3 at h
  refine lv_aload_n C.1 C.2.1 dX8_isFull_0 rfl (lv_at hl 0 rfl) ?_
  refine gX_3_size C hX8_isFull_3_X8 hK hP mX8_isFull_3_1 dX8_isFull_1 ?_
  refine lv_aload_n C.1 C.2.1 dX8_isFull_4 rfl (lv_at hl 0 rfl) ?_
  refine gX_3_texts C hX8_isFull_3_X8 hK hP mX8_isFull_3_2 dX8_isFull_5 ?_
  refine va_alen (v := 12) C.1 C.2.1 hK.1 hP 15 4 rfl rfl rfl dX8_isFull_8 ?_
  refine lv_icmp_lt (tgt := 16) C.1 C.2.1 dX8_isFull_9 (by decide) (fun c9 => ?_) (fun c9 => ?_)
  · rw [if_pos c9] at h
    refine lv_iconst (v := 0) C.1 C.2.1 dX8_isFull_16 (by decide) ?_
    obtain ⟨hg1, h⟩ := gd_some h
    cases h
    exact rt_z hg1 C hP hS dX8_isFull_17
  · rw [if_neg c9] at h
    refine lv_iconst (v := 1) C.1 C.2.1 dX8_isFull_12 (by decide) ?_
    refine lv_goto (tgt := 17) C.1 C.2.1 dX8_isFull_13 (by decide) ?_
    obtain ⟨hg2, h⟩ := gd_some h
    cases h
    exact rt_z hg2 C hP hS dX8_isFull_17
theorem metX8_isFull_3 (l : Launch) (D : va_G) (cy : Nat → ClassId) (ad st : Nat → Nat) (hJ : JX ad) (sz : Nat)  {u : SX} {r : Int32} {u' : SX} (h : fX8_isFull_3  u = some (r, u')) : Met l yX8_isFull wsX8_isFull rmX8_isFull_3 (va_Pc [.ref (ad 3)] (Px D [(cy 0, .int), (cy 1, .long), (cy 2, .boolean), (cy 3, .byte), (cy 4, .object "HissHorn$Text")] st (VX cy ad st) sz u)) (Qi D (VX cy ad st) (AX ad) sz r u') 0 0 (Ax (AX ad) sz) := by
  refine Met.ofW (cc := cX8_isFull) (maxL := 1) (ret := (some .boolean)) (by decide) rfl ?_
  intro p e s m args below meth c s₁ B hml hv
  obtain ⟨rfl, hsz, hP, hK⟩ := hv
  subst hsz
  have C : Cx RX8 cX8_isFull 1 (some .boolean) wsX8_isFull p s m _ meth c := ⟨B.exec, B.bytes, hml, B.returns, findClass_of_methodNamed B.named, atoms_spec (ws := wsX8_isFull) B.pre, B.notSynchronized⟩
  have hl := lv_entry ([.ref (ad 3)]) (n := 1) (Nat.le_of_ble_eq_true rfl)
  rw [lg_entry_eq]
  exact wX8_isFull_3 C hK hJ h hP va_S.rf hl

/-- HissHorn$Parser.compiled()LHissHorn$Text; of cell 2 -/
def rmX5_compiled_2 : Room := { frames := 0, cells := 0, slots := 0, locals := 0 }
def fX5_compiled_2  (u : SX) : Option (Nat × SX) := none
set_option maxHeartbeats 4000000 in
set_option maxRecDepth 100000 in
theorem wX5_compiled_2 {p : Program} {l : Launch} {e : Env} {s : State} {m : MethodId} {args : Array Value} {below : List Frame} {meth : Method} {c : Code} {D : va_G} {cy : Nat → ClassId} {ad st : Nat → Nat} (C : Cx RX5 cX5_compiled 1 (some (.object "HissHorn$Text")) wsX5_compiled p s m args meth c) (hK : Kx D [(cy 0, .int), (cy 1, .long), (cy 2, .boolean), (cy 3, .byte), (cy 4, .object "HissHorn$Text")] st s) (hJ : JX ad)  {u : SX} {r : Nat} {u' : SX} {H : Heap} {locs : List Loc} {ls : Array Slot} (h : fX5_compiled_2  u = some (r, u')) (hP : va_P D vwCl (VX cy ad st u) H) (hS : va_S (Ax (AX ad) s.heap.size) s.heap H locs) (hl : lv_has ls 1 [(0, .ref (ad 2))]) : W p l e rmX5_compiled_2 s m args below meth c H locs 0 0 (MQ below (Qq ad D (VX cy ad st) (AX ad) s.heap.size r u') args s 0 0 (Ax (AX ad) s.heap.size)) (F0 m 0 ls []) := by
  unfold fX5_compiled_2 at h
  exact absurd h (by intro q; cases q)
theorem metX5_compiled_2 (l : Launch) (D : va_G) (cy : Nat → ClassId) (ad st : Nat → Nat) (hJ : JX ad) (sz : Nat)  {u : SX} {r : Nat} {u' : SX} (h : fX5_compiled_2  u = some (r, u')) : Met l yX5_compiled wsX5_compiled rmX5_compiled_2 (va_Pc [.ref (ad 2)] (Px D [(cy 0, .int), (cy 1, .long), (cy 2, .boolean), (cy 3, .byte), (cy 4, .object "HissHorn$Text")] st (VX cy ad st) sz u)) (Qq ad D (VX cy ad st) (AX ad) sz r u') 0 0 (Ax (AX ad) sz) := by
  refine Met.ofW (cc := cX5_compiled) (maxL := 1) (ret := (some (.object "HissHorn$Text"))) (by decide) rfl ?_
  intro p e s m args below meth c s₁ B hml hv
  obtain ⟨rfl, hsz, hP, hK⟩ := hv
  subst hsz
  have C : Cx RX5 cX5_compiled 1 (some (.object "HissHorn$Text")) wsX5_compiled p s m _ meth c := ⟨B.exec, B.bytes, hml, B.returns, findClass_of_methodNamed B.named, atoms_spec (ws := wsX5_compiled) B.pre, B.notSynchronized⟩
  have hl := lv_entry ([.ref (ad 2)]) (n := 1) (Nat.le_of_ble_eq_true rfl)
  rw [lg_entry_eq]
  exact wX5_compiled_2 C hK hJ h hP va_S.rf hl

/-- HissHorn$Shelf.isFull()Z of cell 4 -/
def rmX8_isFull_4 : Room := { frames := 0, cells := 0, slots := 0, locals := 0 }
theorem hX8_isFull_4_X8 : ∀ w ∈ u_ws RX8 TX8 5, w ∈ wsX8_isFull := fun w h => (List.mem_cons_of_mem _ (List.mem_append_right _ h))
theorem mX8_isFull_4_1 : Cond.fieldLink RX8 36 "HissHorn$Shelf" "size" "I" ∈ wsX8_isFull := (List.mem_cons_of_mem _ (List.mem_append_left _ (List.mem_of_getElem? (i := 0) rfl)))
theorem mX8_isFull_4_2 : Cond.fieldLink RX8 23 "HissHorn$Shelf" "texts" "[LHissHorn$Text;" ∈ wsX8_isFull := (List.mem_cons_of_mem _ (List.mem_append_left _ (List.mem_of_getElem? (i := 1) rfl)))
def fX8_isFull_4  (u : SX) : Option (Int32 × SX) := (if (u.1 6) < 6 then (gd (isB 0) (some (0, u))) else (gd (isB 1) (some (1, u))))
set_option maxHeartbeats 4000000 in
set_option maxRecDepth 100000 in
theorem wX8_isFull_4 {p : Program} {l : Launch} {e : Env} {s : State} {m : MethodId} {args : Array Value} {below : List Frame} {meth : Method} {c : Code} {D : va_G} {cy : Nat → ClassId} {ad st : Nat → Nat} (C : Cx RX8 cX8_isFull 1 (some .boolean) wsX8_isFull p s m args meth c) (hK : Kx D [(cy 0, .int), (cy 1, .long), (cy 2, .boolean), (cy 3, .byte), (cy 4, .object "HissHorn$Text")] st s) (hJ : JX ad)  {u : SX} {r : Int32} {u' : SX} {H : Heap} {locs : List Loc} {ls : Array Slot} (h : fX8_isFull_4  u = some (r, u')) (hP : va_P D vwCl (VX cy ad st u) H) (hS : va_S (Ax (AX ad) s.heap.size) s.heap H locs) (hl : lv_has ls 1 [(0, .ref (ad 4))]) : W p l e rmX8_isFull_4 s m args below meth c H locs 0 0 (MQ below (Qi D (VX cy ad st) (AX ad) s.heap.size r u') args s 0 0 (Ax (AX ad) s.heap.size)) (F0 m 0 ls []) := by
  unfold fX8_isFull_4 at h
  refine lv_aload_n C.1 C.2.1 dX8_isFull_0 rfl (lv_at hl 0 rfl) ?_
  refine gX_4_size C hX8_isFull_4_X8 hK hP mX8_isFull_4_1 dX8_isFull_1 ?_
  refine lv_aload_n C.1 C.2.1 dX8_isFull_4 rfl (lv_at hl 0 rfl) ?_
  refine gX_4_texts C hX8_isFull_4_X8 hK hP mX8_isFull_4_2 dX8_isFull_5 ?_
  refine va_alen (v := 6) C.1 C.2.1 hK.1 hP 18 4 rfl rfl rfl dX8_isFull_8 ?_
  refine lv_icmp_lt (tgt := 16) C.1 C.2.1 dX8_isFull_9 (by decide) (fun c9 => ?_) (fun c9 => ?_)
  · rw [if_pos c9] at h
    refine lv_iconst (v := 0) C.1 C.2.1 dX8_isFull_16 (by decide) ?_
    obtain ⟨hg1, h⟩ := gd_some h
    cases h
    exact rt_z hg1 C hP hS dX8_isFull_17
  · rw [if_neg c9] at h
    refine lv_iconst (v := 1) C.1 C.2.1 dX8_isFull_12 (by decide) ?_
    refine lv_goto (tgt := 17) C.1 C.2.1 dX8_isFull_13 (by decide) ?_
    obtain ⟨hg2, h⟩ := gd_some h
    cases h
    exact rt_z hg2 C hP hS dX8_isFull_17
theorem metX8_isFull_4 (l : Launch) (D : va_G) (cy : Nat → ClassId) (ad st : Nat → Nat) (hJ : JX ad) (sz : Nat)  {u : SX} {r : Int32} {u' : SX} (h : fX8_isFull_4  u = some (r, u')) : Met l yX8_isFull wsX8_isFull rmX8_isFull_4 (va_Pc [.ref (ad 4)] (Px D [(cy 0, .int), (cy 1, .long), (cy 2, .boolean), (cy 3, .byte), (cy 4, .object "HissHorn$Text")] st (VX cy ad st) sz u)) (Qi D (VX cy ad st) (AX ad) sz r u') 0 0 (Ax (AX ad) sz) := by
  refine Met.ofW (cc := cX8_isFull) (maxL := 1) (ret := (some .boolean)) (by decide) rfl ?_
  intro p e s m args below meth c s₁ B hml hv
  obtain ⟨rfl, hsz, hP, hK⟩ := hv
  subst hsz
  have C : Cx RX8 cX8_isFull 1 (some .boolean) wsX8_isFull p s m _ meth c := ⟨B.exec, B.bytes, hml, B.returns, findClass_of_methodNamed B.named, atoms_spec (ws := wsX8_isFull) B.pre, B.notSynchronized⟩
  have hl := lv_entry ([.ref (ad 4)]) (n := 1) (Nat.le_of_ble_eq_true rfl)
  rw [lg_entry_eq]
  exact wX8_isFull_4 C hK hJ h hP va_S.rf hl

/-- HissHorn$Shelf.isFull()Z of cell 5 -/
def rmX8_isFull_5 : Room := { frames := 0, cells := 0, slots := 0, locals := 0 }
theorem hX8_isFull_5_X8 : ∀ w ∈ u_ws RX8 TX8 5, w ∈ wsX8_isFull := fun w h => (List.mem_cons_of_mem _ (List.mem_append_right _ h))
theorem mX8_isFull_5_1 : Cond.fieldLink RX8 36 "HissHorn$Shelf" "size" "I" ∈ wsX8_isFull := (List.mem_cons_of_mem _ (List.mem_append_left _ (List.mem_of_getElem? (i := 0) rfl)))
theorem mX8_isFull_5_2 : Cond.fieldLink RX8 23 "HissHorn$Shelf" "texts" "[LHissHorn$Text;" ∈ wsX8_isFull := (List.mem_cons_of_mem _ (List.mem_append_left _ (List.mem_of_getElem? (i := 1) rfl)))
def fX8_isFull_5  (u : SX) : Option (Int32 × SX) := (if (u.1 7) < 6 then (gd (isB 0) (some (0, u))) else (gd (isB 1) (some (1, u))))
set_option maxHeartbeats 4000000 in
set_option maxRecDepth 100000 in
theorem wX8_isFull_5 {p : Program} {l : Launch} {e : Env} {s : State} {m : MethodId} {args : Array Value} {below : List Frame} {meth : Method} {c : Code} {D : va_G} {cy : Nat → ClassId} {ad st : Nat → Nat} (C : Cx RX8 cX8_isFull 1 (some .boolean) wsX8_isFull p s m args meth c) (hK : Kx D [(cy 0, .int), (cy 1, .long), (cy 2, .boolean), (cy 3, .byte), (cy 4, .object "HissHorn$Text")] st s) (hJ : JX ad)  {u : SX} {r : Int32} {u' : SX} {H : Heap} {locs : List Loc} {ls : Array Slot} (h : fX8_isFull_5  u = some (r, u')) (hP : va_P D vwCl (VX cy ad st u) H) (hS : va_S (Ax (AX ad) s.heap.size) s.heap H locs) (hl : lv_has ls 1 [(0, .ref (ad 5))]) : W p l e rmX8_isFull_5 s m args below meth c H locs 0 0 (MQ below (Qi D (VX cy ad st) (AX ad) s.heap.size r u') args s 0 0 (Ax (AX ad) s.heap.size)) (F0 m 0 ls []) := by
  unfold fX8_isFull_5 at h
  refine lv_aload_n C.1 C.2.1 dX8_isFull_0 rfl (lv_at hl 0 rfl) ?_
  refine gX_5_size C hX8_isFull_5_X8 hK hP mX8_isFull_5_1 dX8_isFull_1 ?_
  refine lv_aload_n C.1 C.2.1 dX8_isFull_4 rfl (lv_at hl 0 rfl) ?_
  refine gX_5_texts C hX8_isFull_5_X8 hK hP mX8_isFull_5_2 dX8_isFull_5 ?_
  refine va_alen (v := 6) C.1 C.2.1 hK.1 hP 21 4 rfl rfl rfl dX8_isFull_8 ?_
  refine lv_icmp_lt (tgt := 16) C.1 C.2.1 dX8_isFull_9 (by decide) (fun c9 => ?_) (fun c9 => ?_)
  · rw [if_pos c9] at h
    refine lv_iconst (v := 0) C.1 C.2.1 dX8_isFull_16 (by decide) ?_
    obtain ⟨hg1, h⟩ := gd_some h
    cases h
    exact rt_z hg1 C hP hS dX8_isFull_17
  · rw [if_neg c9] at h
    refine lv_iconst (v := 1) C.1 C.2.1 dX8_isFull_12 (by decide) ?_
    refine lv_goto (tgt := 17) C.1 C.2.1 dX8_isFull_13 (by decide) ?_
    obtain ⟨hg2, h⟩ := gd_some h
    cases h
    exact rt_z hg2 C hP hS dX8_isFull_17
theorem metX8_isFull_5 (l : Launch) (D : va_G) (cy : Nat → ClassId) (ad st : Nat → Nat) (hJ : JX ad) (sz : Nat)  {u : SX} {r : Int32} {u' : SX} (h : fX8_isFull_5  u = some (r, u')) : Met l yX8_isFull wsX8_isFull rmX8_isFull_5 (va_Pc [.ref (ad 5)] (Px D [(cy 0, .int), (cy 1, .long), (cy 2, .boolean), (cy 3, .byte), (cy 4, .object "HissHorn$Text")] st (VX cy ad st) sz u)) (Qi D (VX cy ad st) (AX ad) sz r u') 0 0 (Ax (AX ad) sz) := by
  refine Met.ofW (cc := cX8_isFull) (maxL := 1) (ret := (some .boolean)) (by decide) rfl ?_
  intro p e s m args below meth c s₁ B hml hv
  obtain ⟨rfl, hsz, hP, hK⟩ := hv
  subst hsz
  have C : Cx RX8 cX8_isFull 1 (some .boolean) wsX8_isFull p s m _ meth c := ⟨B.exec, B.bytes, hml, B.returns, findClass_of_methodNamed B.named, atoms_spec (ws := wsX8_isFull) B.pre, B.notSynchronized⟩
  have hl := lv_entry ([.ref (ad 5)]) (n := 1) (Nat.le_of_ble_eq_true rfl)
  rw [lg_entry_eq]
  exact wX8_isFull_5 C hK hJ h hP va_S.rf hl

theorem dX11_text_0 : decode cX11_text 0 = .ok (.aload_n 0, 1) := by decide +kernel
theorem dX11_text_1 : decode cX11_text 1 = .ok (.iload_n 1, 1) := by decide +kernel
set_option maxRecDepth 20000 in
theorem ggX11_text_X11_shelfOf : GoodIn wsX11_text wsX11_shelfOf := goodIn_r _ [9, 10, 11, 12, 195, 196, 197, 198, 199, 200, 201, 202, 203, 204, 205, 206, 207] (by decide +kernel) (by decide +kernel)
set_option maxRecDepth 20000 in
theorem gX11_text_X11_shelfOf : GoodIn wsX11_text (wsV RX11 122 RX11 yX11_shelfOf wsX11_shelfOf) := goodIn_app (goodIn_of _ (by decide +kernel)) ggX11_text_X11_shelfOf
theorem dX11_text_2 : decode cX11_text 2 = .ok (.invokevirtual 122, 3) := by decide +kernel
theorem dX11_text_5 : decode cX11_text 5 = .ok (.astore_n 2, 1) := by decide +kernel
theorem dX11_text_6 : decode cX11_text 6 = .ok (.aload_n 2, 1) := by decide +kernel
theorem dX11_text_7 : decode cX11_text 7 = .ok (.ifnull 25, 3) := by decide +kernel
theorem dX11_text_32 : decode cX11_text 32 = .ok (.iconst (-1), 1) := by decide +kernel
theorem dX11_text_33 : decode cX11_text 33 = .ok (.ireturn, 1) := by decide +kernel
theorem dX11_text_10 : decode cX11_text 10 = .ok (.aload_n 2, 1) := by decide +kernel
set_option maxRecDepth 20000 in
theorem ggX11_text_X8_isFull : GoodIn wsX11_text wsX8_isFull := goodIn_r _ [17, 18, 19, 208, 209, 210, 211, 212] (by decide +kernel) (by decide +kernel)
set_option maxRecDepth 20000 in
theorem gX11_text_X8_isFull : GoodIn wsX11_text (wsV RX11 134 RX8 yX8_isFull wsX8_isFull) := goodIn_app (goodIn_of _ (by decide +kernel)) ggX11_text_X8_isFull
theorem dX11_text_11 : decode cX11_text 11 = .ok (.invokevirtual 134, 3) := by decide +kernel
theorem dX11_text_14 : decode cX11_text 14 = .ok (.ifCond .ne 18, 3) := by decide +kernel
theorem dX11_text_17 : decode cX11_text 17 = .ok (.aload_n 0, 1) := by decide +kernel
theorem dX11_text_18 : decode cX11_text 18 = .ok (.getfield 21, 3) := by decide +kernel
theorem dX11_text_21 : decode cX11_text 21 = .ok (.aload_n 2, 1) := by decide +kernel
theorem dX11_text_22 : decode cX11_text 22 = .ok (.getfield 126, 3) := by decide +kernel
set_option maxRecDepth 20000 in
theorem ggX11_text_X5_faultBy : GoodIn wsX11_text wsX5_faultBy := goodIn_r _ [24, 25, 26, 27, 28, 29, 30, 31, 32, 23, 33, 34, 35, 36, 37, 38, 39, 40, 41, 42, 43, 44, 45, 46, 47, 48, 49, 50, 51, 52, 53, 54, 55, 56, 57, 58, 59, 60, 61, 62, 63, 64, 65, 66, 67, 68, 69, 70, 71, 72, 73, 74, 75, 76, 77, 78, 79, 80, 81, 82, 83, 84, 85, 86, 87, 88, 89, 90, 91, 92, 93, 94, 95, 96, 97, 98, 99, 100, 101, 102, 103, 104, 105, 106, 107, 108, 109, 110, 111, 112, 113, 114, 115, 116, 117, 118, 119, 120, 121, 122, 123, 124, 125, 126, 127, 128, 129, 130, 131, 132, 133, 134, 135, 136, 137, 138, 139, 140, 141, 142, 143, 144, 145, 146, 147, 148, 149, 150, 151, 152, 153, 154, 155, 156, 157, 158, 159, 215, 216, 217, 218, 219, 213, 214] (by decide +kernel) (by decide +kernel)
set_option maxRecDepth 20000 in
theorem gX11_text_X5_faultBy : GoodIn wsX11_text (wsV RX11 130 RX5 yX5_faultBy wsX5_faultBy) := goodIn_app (goodIn_of _ (by decide +kernel)) ggX11_text_X5_faultBy
theorem dX11_text_25 : decode cX11_text 25 = .ok (.invokevirtual 130, 3) := by decide +kernel
theorem dX11_text_28 : decode cX11_text 28 = .ok (.iconst (-1), 1) := by decide +kernel
theorem dX11_text_29 : decode cX11_text 29 = .ok (.if_icmp .eq 5, 3) := by decide +kernel
theorem dX11_text_34 : decode cX11_text 34 = .ok (.aload_n 0, 1) := by decide +kernel
theorem dX11_text_35 : decode cX11_text 35 = .ok (.getfield 10, 3) := by decide +kernel
theorem dX11_text_38 : decode cX11_text 38 = .ok (.iconst 0, 1) := by decide +kernel
theorem dX11_text_39 : decode cX11_text 39 = .ok (.putfield 115, 3) := by decide +kernel
theorem dX11_text_42 : decode cX11_text 42 = .ok (.aload_n 2, 1) := by decide +kernel
theorem dX11_text_43 : decode cX11_text 43 = .ok (.aload_n 0, 1) := by decide +kernel
theorem dX11_text_44 : decode cX11_text 44 = .ok (.getfield 21, 3) := by decide +kernel
set_option maxRecDepth 20000 in
theorem ggX11_text_X5_compiled : GoodIn wsX11_text wsX5_compiled := goodIn_r _ [163, 164, 165, 166, 54, 27, 167, 168, 169, 170, 171, 172, 173, 174, 175, 176, 177, 178, 93, 90, 94, 179, 180, 181, 182, 183, 184, 185, 186, 187, 188, 189, 220, 215, 216, 217, 218, 219] (by decide +kernel) (by decide +kernel)
set_option maxRecDepth 20000 in
theorem gX11_text_X5_compiled : GoodIn wsX11_text (wsV RX11 138 RX5 yX5_compiled wsX5_compiled) := goodIn_app (goodIn_of _ (by decide +kernel)) ggX11_text_X5_compiled
theorem dX11_text_47 : decode cX11_text 47 = .ok (.invokevirtual 138, 3) := by decide +kernel
/-- HissHorn.text(I)I of cell 0 -/
def rmX11_text_0 : Room := { frames := 69, cells := 0, slots := 0, locals := 4207 }
theorem hX11_text_0_X11 : ∀ w ∈ u_ws RX11 TX11 13, w ∈ wsX11_text := fun w h => (List.mem_cons_of_mem _ (List.mem_append_left _ (List.mem_append_left _ (List.mem_append_left _ (List.mem_append_left _ (List.mem_append_right _ h))))))
theorem mX11_text_0_1 : Cond.fieldLink RX11 21 "HissHorn" "parser" "LHissHorn$Parser;" ∈ wsX11_text := (List.mem_cons_of_mem _ (List.mem_append_left _ (List.mem_append_left _ (List.mem_append_left _ (List.mem_append_left _ (List.mem_append_left _ (List.mem_append_left _ (List.mem_of_getElem? (i := 0) rfl))))))))
theorem hX11_text_0_X8 : ∀ w ∈ u_ws RX8 TX8 5, w ∈ wsX11_text := fun w h => (List.mem_cons_of_mem _ (List.mem_append_left _ (List.mem_append_left _ (List.mem_append_left _ (List.mem_append_right _ h)))))
theorem mX11_text_0_3 : Cond.fieldLink RX11 126 "HissHorn$Shelf" "letters" "Ljava/lang/String;" ∈ wsX11_text := (List.mem_cons_of_mem _ (List.mem_append_left _ (List.mem_append_left _ (List.mem_append_left _ (List.mem_append_left _ (List.mem_append_left _ (List.mem_append_left _ (List.mem_of_getElem? (i := 1) rfl))))))))
theorem mX11_text_0_4 : Cond.fieldLink RX11 10 "HissHorn" "tape" "LHissHorn$Tape;" ∈ wsX11_text := (List.mem_cons_of_mem _ (List.mem_append_left _ (List.mem_append_left _ (List.mem_append_left _ (List.mem_append_left _ (List.mem_append_left _ (List.mem_append_left _ (List.mem_of_getElem? (i := 2) rfl))))))))
theorem hX11_text_0_X9 : ∀ w ∈ u_ws RX9 TX9 2, w ∈ wsX11_text := fun w h => (List.mem_cons_of_mem _ (List.mem_append_left _ (List.mem_append_left _ (List.mem_append_right _ h))))
theorem mX11_text_0_6 : Cond.fieldLink RX11 115 "HissHorn$Tape" "length" "I" ∈ wsX11_text := (List.mem_cons_of_mem _ (List.mem_append_left _ (List.mem_append_left _ (List.mem_append_left _ (List.mem_append_left _ (List.mem_append_left _ (List.mem_append_left _ (List.mem_of_getElem? (i := 3) rfl))))))))
def fX11_text_0 (x1 : Int32) (u : SX) : Option (Int32 × SX) := ((fX11_shelfOf_0 x1 u).bind fun q => match q with | (r1, u2) => (if r1 = 0 then (some ((-1), u2)) else (if r1 = 4 then ((fX8_isFull_3  u2).bind fun q => match q with | (r4, u5) => (if r4 = 0 then ((fX5_faultBy_2_as0  u5).bind fun q => match q with | (r7, u8) => (if r7 = (-1) then (lt (sI u8 1 0) fun u10 => ((fX5_compiled_2  u10).bind fun q => match q with | (r12, u13) => none)) else (some ((-1), u8)))) else (some ((-1), u5)))) else (if r1 = 5 then ((fX8_isFull_4  u2).bind fun q => match q with | (r15, u16) => (if r15 = 0 then ((fX5_faultBy_2_as1  u16).bind fun q => match q with | (r18, u19) => (if r18 = (-1) then (lt (sI u19 1 0) fun u21 => ((fX5_compiled_2  u21).bind fun q => match q with | (r23, u24) => none)) else (some ((-1), u19)))) else (some ((-1), u16)))) else (if r1 = 6 then ((fX8_isFull_5  u2).bind fun q => match q with | (r26, u27) => (if r26 = 0 then ((fX5_faultBy_2_as2  u27).bind fun q => match q with | (r29, u30) => (if r29 = (-1) then (lt (sI u30 1 0) fun u32 => ((fX5_compiled_2  u32).bind fun q => match q with | (r34, u35) => none)) else (some ((-1), u30)))) else (some ((-1), u27)))) else none)))))
set_option maxHeartbeats 4000000 in
set_option maxRecDepth 100000 in
theorem wX11_text_0 {p : Program} {l : Launch} {e : Env} {s : State} {m : MethodId} {args : Array Value} {below : List Frame} {meth : Method} {c : Code} {D : va_G} {cy : Nat → ClassId} {ad st : Nat → Nat} (C : Cx RX11 cX11_text 3 (some .int) wsX11_text p s m args meth c) (hK : Kx D [(cy 0, .int), (cy 1, .long), (cy 2, .boolean), (cy 3, .byte), (cy 4, .object "HissHorn$Text")] st s) (hJ : JX ad) (x1 : Int32) {u : SX} {r : Int32} {u' : SX} {H : Heap} {locs : List Loc} {ls : Array Slot} (h : fX11_text_0 x1 u = some (r, u')) (hP : va_P D vwCl (VX cy ad st u) H) (hS : va_S (Ax (AX ad) s.heap.size) s.heap H locs) (hl : lv_has ls 3 [(0, .ref (ad 0)), (1, .int x1)]) : W p l e rmX11_text_0 s m args below meth c H locs 0 0 (MQ below (Qi D (VX cy ad st) (AX ad) s.heap.size r u') args s 0 0 (Ax (AX ad) s.heap.size)) (F0 m 0 ls []) := by
  unfold fX11_text_0 at h
  refine lv_aload_n C.1 C.2.1 dX11_text_0 rfl (lv_at hl 0 rfl) ?_
  refine lv_iload_n C.1 C.2.1 dX11_text_1 rfl (lv_at hl 1 rfl) ?_
  obtain ⟨⟨r1, u2⟩, hc3, h⟩ := bd_some h
  try dsimp only at h
  refine cg_q (As := [.int x1]) (rest := []) C hK hP hS (metX11_shelfOf_0 l D cy ad st hJ _ x1 hc3) (cwV 1 C.2.2.2.2.2.1 gX11_text_X11_shelfOf rfl rfl rfl (by decide +kernel) ⟨(Nat.le_of_ble_eq_true rfl), (Nat.le_of_ble_eq_true rfl)⟩) 0 11 rfl rfl rfl hl.1 rfl (Nat.le_of_ble_eq_true rfl) dX11_text_2 ⟨Nat.zero_le _, Nat.zero_le _⟩ (fun H locs hP hS => ?_)
  by_cases c2_0 : r1 = 0
  · rw [if_pos c2_0] at h
    subst c2_0
    refine W.eq (g2 := F0 m 5 ls [.null]) rfl ?_
    refine lv_astore_nN (lv' := [(2, .null), (0, .ref (ad 0)), (1, .int x1)]) C.1 C.2.1 dX11_text_5 rfl hl (by decide) rfl (fun ls hl => ?_)
    replace hl := lv_sub (l' := [(0, .ref (ad 0)), (1, .int x1), (2, .null)]) hl [1, 2, 0] rfl
    refine lv_aload_nN C.1 C.2.1 dX11_text_6 rfl (lv_at hl 2 rfl) ?_
    refine lv_ifnullN (tgt := 32) C.1 C.2.1 dX11_text_7 (by decide) ?_
    refine lv_iconst (v := (-1)) C.1 C.2.1 dX11_text_32 (by decide) ?_
    cases h
    exact rt_i C hP hS dX11_text_33
  · rw [if_neg c2_0] at h
    by_cases c2_4 : r1 = 4
    · rw [if_pos c2_4] at h
      subst c2_4
      refine W.eq (g2 := F0 m 5 ls [.ref (ad 3)]) rfl ?_
      refine lv_astore_n (lv' := [(2, .ref (ad 3)), (0, .ref (ad 0)), (1, .int x1)]) C.1 C.2.1 dX11_text_5 rfl hl (by decide) rfl (fun ls hl => ?_)
      replace hl := lv_sub (l' := [(0, .ref (ad 0)), (1, .int x1), (2, .ref (ad 3))]) hl [1, 2, 0] rfl
      refine lv_aload_n C.1 C.2.1 dX11_text_6 rfl (lv_at hl 2 rfl) ?_
      refine lv_ifnull C.1 C.2.1 dX11_text_7 ?_
      refine lv_aload_n C.1 C.2.1 dX11_text_10 rfl (lv_at hl 2 rfl) ?_
      obtain ⟨⟨r4, u5⟩, hc6, h⟩ := bd_some h
      try dsimp only at h
      refine cg_i (As := []) (rest := []) C hK hP hS (metX8_isFull_3 l D cy ad st hJ _  hc6) (cwV 0 C.2.2.2.2.2.1 gX11_text_X8_isFull rfl rfl rfl (by decide +kernel) ⟨(Nat.le_of_ble_eq_true rfl), (Nat.le_of_ble_eq_true rfl)⟩) 3 8 rfl rfl rfl hl.1 rfl (Nat.le_of_ble_eq_true rfl) dX11_text_11 ⟨Nat.zero_le _, Nat.zero_le _⟩ (fun H locs hP hS => ?_)
      refine lv_if_ne (tgt := 32) C.1 C.2.1 dX11_text_14 (by decide) (fun c14 => ?_) (fun c14 => ?_)
      · rw [if_neg c14] at h
        refine lv_iconst (v := (-1)) C.1 C.2.1 dX11_text_32 (by decide) ?_
        cases h
        exact rt_i C hP hS dX11_text_33
      · rw [if_pos c14] at h
        refine lv_aload_n C.1 C.2.1 dX11_text_17 rfl (lv_at hl 0 rfl) ?_
        refine gX_0_parser C hX11_text_0_X11 hK hP mX11_text_0_1 dX11_text_18 ?_
        refine lv_aload_n C.1 C.2.1 dX11_text_21 rfl (lv_at hl 2 rfl) ?_
        refine gX_3_letters C hX11_text_0_X8 hK hP mX11_text_0_3 dX11_text_22 ?_
        obtain ⟨⟨r7, u8⟩, hc9, h⟩ := bd_some h
        try dsimp only at h
        refine cg_i (As := [.ref (st 0)]) (rest := []) C hK hP hS (metX5_faultBy_2_as0 l D cy ad st hJ _  hc9) (cwV 1 C.2.2.2.2.2.1 gX11_text_X5_faultBy rfl rfl rfl (by decide +kernel) ⟨(Nat.le_of_ble_eq_true rfl), (Nat.le_of_ble_eq_true rfl)⟩) 2 5 rfl rfl rfl hl.1 rfl (Nat.le_of_ble_eq_true rfl) dX11_text_25 ⟨Nat.zero_le _, Nat.zero_le _⟩ (fun H locs hP hS => ?_)
        refine lv_iconst (v := (-1)) C.1 C.2.1 dX11_text_28 (by decide) ?_
        refine lv_icmp_eq (tgt := 34) C.1 C.2.1 dX11_text_29 (by decide) (fun c29 => ?_) (fun c29 => ?_)
        · rw [if_pos c29] at h
          refine lv_aload_n C.1 C.2.1 dX11_text_34 rfl (lv_at hl 0 rfl) ?_
          refine gX_0_tape C hX11_text_0_X11 hK hP mX11_text_0_4 dX11_text_35 ?_
          refine lv_iconst (v := 0) C.1 C.2.1 dX11_text_38 (by decide) ?_
          refine pX_1_length C hX11_text_0_X9 hK hP hJ hS mX11_text_0_6 dX11_text_39 (fun H locs hP hS => ?_)
          obtain ⟨u10, hu11, h⟩ := lt_some h
          rw [← hu11] at hP
          refine lv_aload_n C.1 C.2.1 dX11_text_42 rfl (lv_at hl 2 rfl) ?_
          refine lv_aload_n C.1 C.2.1 dX11_text_43 rfl (lv_at hl 0 rfl) ?_
          refine gX_0_parser C hX11_text_0_X11 hK hP mX11_text_0_1 dX11_text_44 ?_
          obtain ⟨⟨r12, u13⟩, hc14, h⟩ := bd_some h
          try dsimp only at h
          refine cg_q (As := []) (rest := [.ref (ad 3)]) C hK hP hS (metX5_compiled_2 l D cy ad st hJ _  hc14) (cwV 0 C.2.2.2.2.2.1 gX11_text_X5_compiled rfl rfl rfl (by decide +kernel) ⟨(Nat.le_of_ble_eq_true rfl), (Nat.le_of_ble_eq_true rfl)⟩) 2 5 rfl rfl rfl hl.1 rfl (Nat.le_of_ble_eq_true rfl) dX11_text_47 ⟨Nat.zero_le _, Nat.zero_le _⟩ (fun H locs hP hS => ?_)
          exact absurd h (by intro q; cases q)
        · rw [if_neg c29] at h
          refine lv_iconst (v := (-1)) C.1 C.2.1 dX11_text_32 (by decide) ?_
          cases h
          exact rt_i C hP hS dX11_text_33
    · rw [if_neg c2_4] at h
      by_cases c2_5 : r1 = 5
      · rw [if_pos c2_5] at h
        subst c2_5
        refine W.eq (g2 := F0 m 5 ls [.ref (ad 4)]) rfl ?_
        refine lv_astore_n (lv' := [(2, .ref (ad 4)), (0, .ref (ad 0)), (1, .int x1)]) C.1 C.2.1 dX11_text_5 rfl hl (by decide) rfl (fun ls hl => ?_)
        replace hl := lv_sub (l' := [(0, .ref (ad 0)), (1, .int x1), (2, .ref (ad 4))]) hl [1, 2, 0] rfl
        refine lv_aload_n C.1 C.2.1 dX11_text_6 rfl (lv_at hl 2 rfl) ?_
        refine lv_ifnull C.1 C.2.1 dX11_text_7 ?_
        refine lv_aload_n C.1 C.2.1 dX11_text_10 rfl (lv_at hl 2 rfl) ?_
        obtain ⟨⟨r15, u16⟩, hc17, h⟩ := bd_some h
        try dsimp only at h
        refine cg_i (As := []) (rest := []) C hK hP hS (metX8_isFull_4 l D cy ad st hJ _  hc17) (cwV 0 C.2.2.2.2.2.1 gX11_text_X8_isFull rfl rfl rfl (by decide +kernel) ⟨(Nat.le_of_ble_eq_true rfl), (Nat.le_of_ble_eq_true rfl)⟩) 4 8 rfl rfl rfl hl.1 rfl (Nat.le_of_ble_eq_true rfl) dX11_text_11 ⟨Nat.zero_le _, Nat.zero_le _⟩ (fun H locs hP hS => ?_)
        refine lv_if_ne (tgt := 32) C.1 C.2.1 dX11_text_14 (by decide) (fun c14 => ?_) (fun c14 => ?_)
        · rw [if_neg c14] at h
          refine lv_iconst (v := (-1)) C.1 C.2.1 dX11_text_32 (by decide) ?_
          cases h
          exact rt_i C hP hS dX11_text_33
        · rw [if_pos c14] at h
          refine lv_aload_n C.1 C.2.1 dX11_text_17 rfl (lv_at hl 0 rfl) ?_
          refine gX_0_parser C hX11_text_0_X11 hK hP mX11_text_0_1 dX11_text_18 ?_
          refine lv_aload_n C.1 C.2.1 dX11_text_21 rfl (lv_at hl 2 rfl) ?_
          refine gX_4_letters C hX11_text_0_X8 hK hP mX11_text_0_3 dX11_text_22 ?_
          obtain ⟨⟨r18, u19⟩, hc20, h⟩ := bd_some h
          try dsimp only at h
          refine cg_i (As := [.ref (st 1)]) (rest := []) C hK hP hS (metX5_faultBy_2_as1 l D cy ad st hJ _  hc20) (cwV 1 C.2.2.2.2.2.1 gX11_text_X5_faultBy rfl rfl rfl (by decide +kernel) ⟨(Nat.le_of_ble_eq_true rfl), (Nat.le_of_ble_eq_true rfl)⟩) 2 5 rfl rfl rfl hl.1 rfl (Nat.le_of_ble_eq_true rfl) dX11_text_25 ⟨Nat.zero_le _, Nat.zero_le _⟩ (fun H locs hP hS => ?_)
          refine lv_iconst (v := (-1)) C.1 C.2.1 dX11_text_28 (by decide) ?_
          refine lv_icmp_eq (tgt := 34) C.1 C.2.1 dX11_text_29 (by decide) (fun c29 => ?_) (fun c29 => ?_)
          · rw [if_pos c29] at h
            refine lv_aload_n C.1 C.2.1 dX11_text_34 rfl (lv_at hl 0 rfl) ?_
            refine gX_0_tape C hX11_text_0_X11 hK hP mX11_text_0_4 dX11_text_35 ?_
            refine lv_iconst (v := 0) C.1 C.2.1 dX11_text_38 (by decide) ?_
            refine pX_1_length C hX11_text_0_X9 hK hP hJ hS mX11_text_0_6 dX11_text_39 (fun H locs hP hS => ?_)
            obtain ⟨u21, hu22, h⟩ := lt_some h
            rw [← hu22] at hP
            refine lv_aload_n C.1 C.2.1 dX11_text_42 rfl (lv_at hl 2 rfl) ?_
            refine lv_aload_n C.1 C.2.1 dX11_text_43 rfl (lv_at hl 0 rfl) ?_
            refine gX_0_parser C hX11_text_0_X11 hK hP mX11_text_0_1 dX11_text_44 ?_
            obtain ⟨⟨r23, u24⟩, hc25, h⟩ := bd_some h
            try dsimp only at h
            refine cg_q (As := []) (rest := [.ref (ad 4)]) C hK hP hS (metX5_compiled_2 l D cy ad st hJ _  hc25) (cwV 0 C.2.2.2.2.2.1 gX11_text_X5_compiled rfl rfl rfl (by decide +kernel) ⟨(Nat.le_of_ble_eq_true rfl), (Nat.le_of_ble_eq_true rfl)⟩) 2 5 rfl rfl rfl hl.1 rfl (Nat.le_of_ble_eq_true rfl) dX11_text_47 ⟨Nat.zero_le _, Nat.zero_le _⟩ (fun H locs hP hS => ?_)
            exact absurd h (by intro q; cases q)
          · rw [if_neg c29] at h
            refine lv_iconst (v := (-1)) C.1 C.2.1 dX11_text_32 (by decide) ?_
            cases h
            exact rt_i C hP hS dX11_text_33
      · rw [if_neg c2_5] at h
        by_cases c2_6 : r1 = 6
        · rw [if_pos c2_6] at h
          subst c2_6
          refine W.eq (g2 := F0 m 5 ls [.ref (ad 5)]) rfl ?_
          refine lv_astore_n (lv' := [(2, .ref (ad 5)), (0, .ref (ad 0)), (1, .int x1)]) C.1 C.2.1 dX11_text_5 rfl hl (by decide) rfl (fun ls hl => ?_)
          replace hl := lv_sub (l' := [(0, .ref (ad 0)), (1, .int x1), (2, .ref (ad 5))]) hl [1, 2, 0] rfl
          refine lv_aload_n C.1 C.2.1 dX11_text_6 rfl (lv_at hl 2 rfl) ?_
          refine lv_ifnull C.1 C.2.1 dX11_text_7 ?_
          refine lv_aload_n C.1 C.2.1 dX11_text_10 rfl (lv_at hl 2 rfl) ?_
          obtain ⟨⟨r26, u27⟩, hc28, h⟩ := bd_some h
          try dsimp only at h
          refine cg_i (As := []) (rest := []) C hK hP hS (metX8_isFull_5 l D cy ad st hJ _  hc28) (cwV 0 C.2.2.2.2.2.1 gX11_text_X8_isFull rfl rfl rfl (by decide +kernel) ⟨(Nat.le_of_ble_eq_true rfl), (Nat.le_of_ble_eq_true rfl)⟩) 5 8 rfl rfl rfl hl.1 rfl (Nat.le_of_ble_eq_true rfl) dX11_text_11 ⟨Nat.zero_le _, Nat.zero_le _⟩ (fun H locs hP hS => ?_)
          refine lv_if_ne (tgt := 32) C.1 C.2.1 dX11_text_14 (by decide) (fun c14 => ?_) (fun c14 => ?_)
          · rw [if_neg c14] at h
            refine lv_iconst (v := (-1)) C.1 C.2.1 dX11_text_32 (by decide) ?_
            cases h
            exact rt_i C hP hS dX11_text_33
          · rw [if_pos c14] at h
            refine lv_aload_n C.1 C.2.1 dX11_text_17 rfl (lv_at hl 0 rfl) ?_
            refine gX_0_parser C hX11_text_0_X11 hK hP mX11_text_0_1 dX11_text_18 ?_
            refine lv_aload_n C.1 C.2.1 dX11_text_21 rfl (lv_at hl 2 rfl) ?_
            refine gX_5_letters C hX11_text_0_X8 hK hP mX11_text_0_3 dX11_text_22 ?_
            obtain ⟨⟨r29, u30⟩, hc31, h⟩ := bd_some h
            try dsimp only at h
            refine cg_i (As := [.ref (st 2)]) (rest := []) C hK hP hS (metX5_faultBy_2_as2 l D cy ad st hJ _  hc31) (cwV 1 C.2.2.2.2.2.1 gX11_text_X5_faultBy rfl rfl rfl (by decide +kernel) ⟨(Nat.le_of_ble_eq_true rfl), (Nat.le_of_ble_eq_true rfl)⟩) 2 5 rfl rfl rfl hl.1 rfl (Nat.le_of_ble_eq_true rfl) dX11_text_25 ⟨Nat.zero_le _, Nat.zero_le _⟩ (fun H locs hP hS => ?_)
            refine lv_iconst (v := (-1)) C.1 C.2.1 dX11_text_28 (by decide) ?_
            refine lv_icmp_eq (tgt := 34) C.1 C.2.1 dX11_text_29 (by decide) (fun c29 => ?_) (fun c29 => ?_)
            · rw [if_pos c29] at h
              refine lv_aload_n C.1 C.2.1 dX11_text_34 rfl (lv_at hl 0 rfl) ?_
              refine gX_0_tape C hX11_text_0_X11 hK hP mX11_text_0_4 dX11_text_35 ?_
              refine lv_iconst (v := 0) C.1 C.2.1 dX11_text_38 (by decide) ?_
              refine pX_1_length C hX11_text_0_X9 hK hP hJ hS mX11_text_0_6 dX11_text_39 (fun H locs hP hS => ?_)
              obtain ⟨u32, hu33, h⟩ := lt_some h
              rw [← hu33] at hP
              refine lv_aload_n C.1 C.2.1 dX11_text_42 rfl (lv_at hl 2 rfl) ?_
              refine lv_aload_n C.1 C.2.1 dX11_text_43 rfl (lv_at hl 0 rfl) ?_
              refine gX_0_parser C hX11_text_0_X11 hK hP mX11_text_0_1 dX11_text_44 ?_
              obtain ⟨⟨r34, u35⟩, hc36, h⟩ := bd_some h
              try dsimp only at h
              refine cg_q (As := []) (rest := [.ref (ad 5)]) C hK hP hS (metX5_compiled_2 l D cy ad st hJ _  hc36) (cwV 0 C.2.2.2.2.2.1 gX11_text_X5_compiled rfl rfl rfl (by decide +kernel) ⟨(Nat.le_of_ble_eq_true rfl), (Nat.le_of_ble_eq_true rfl)⟩) 2 5 rfl rfl rfl hl.1 rfl (Nat.le_of_ble_eq_true rfl) dX11_text_47 ⟨Nat.zero_le _, Nat.zero_le _⟩ (fun H locs hP hS => ?_)
              exact absurd h (by intro q; cases q)
            · rw [if_neg c29] at h
              refine lv_iconst (v := (-1)) C.1 C.2.1 dX11_text_32 (by decide) ?_
              cases h
              exact rt_i C hP hS dX11_text_33
        · rw [if_neg c2_6] at h
          exact absurd h (by intro q; cases q)
theorem metX11_text_0 (l : Launch) (D : va_G) (cy : Nat → ClassId) (ad st : Nat → Nat) (hJ : JX ad) (sz : Nat) (x1 : Int32) {u : SX} {r : Int32} {u' : SX} (h : fX11_text_0 x1 u = some (r, u')) : Met l yX11_text wsX11_text rmX11_text_0 (va_Pc [.ref (ad 0), .int x1] (Px D [(cy 0, .int), (cy 1, .long), (cy 2, .boolean), (cy 3, .byte), (cy 4, .object "HissHorn$Text")] st (VX cy ad st) sz u)) (Qi D (VX cy ad st) (AX ad) sz r u') 0 0 (Ax (AX ad) sz) := by
  refine Met.ofW (cc := cX11_text) (maxL := 3) (ret := (some .int)) (by decide) rfl ?_
  intro p e s m args below meth c s₁ B hml hv
  obtain ⟨rfl, hsz, hP, hK⟩ := hv
  subst hsz
  have C : Cx RX11 cX11_text 3 (some .int) wsX11_text p s m _ meth c := ⟨B.exec, B.bytes, hml, B.returns, findClass_of_methodNamed B.named, atoms_spec (ws := wsX11_text) B.pre, B.notSynchronized⟩
  have hl := lv_entry ([.ref (ad 0), .int x1]) (n := 3) (Nat.le_of_ble_eq_true rfl)
  rw [lg_entry_eq]
  exact wX11_text_0 C hK hJ x1 h hP va_S.rf hl

theorem dX8_has_0 : decode cX8_has 0 = .ok (.iload_n 1, 1) := by decide +kernel
theorem dX8_has_1 : decode cX8_has 1 = .ok (.ifCond .lt 15, 3) := by decide +kernel
theorem dX8_has_16 : decode cX8_has 16 = .ok (.iconst 0, 1) := by decide +kernel
theorem dX8_has_17 : decode cX8_has 17 = .ok (.ireturn, 1) := by decide +kernel
theorem dX8_has_4 : decode cX8_has 4 = .ok (.iload_n 1, 1) := by decide +kernel
theorem dX8_has_5 : decode cX8_has 5 = .ok (.aload_n 0, 1) := by decide +kernel
theorem dX8_has_6 : decode cX8_has 6 = .ok (.getfield 36, 3) := by decide +kernel
theorem dX8_has_9 : decode cX8_has 9 = .ok (.if_icmp .ge 7, 3) := by decide +kernel
theorem dX8_has_12 : decode cX8_has 12 = .ok (.iconst 1, 1) := by decide +kernel
theorem dX8_has_13 : decode cX8_has 13 = .ok (.goto 4, 3) := by decide +kernel
/-- HissHorn$Shelf.has(I)Z of cell 3 -/
def rmX8_has_3 : Room := { frames := 0, cells := 0, slots := 0, locals := 0 }
theorem hX8_has_3_X8 : ∀ w ∈ u_ws RX8 TX8 5, w ∈ wsX8_has := fun w h => (List.mem_cons_of_mem _ (List.mem_append_right _ h))
theorem mX8_has_3_1 : Cond.fieldLink RX8 36 "HissHorn$Shelf" "size" "I" ∈ wsX8_has := (List.mem_cons_of_mem _ (List.mem_append_left _ (List.mem_of_getElem? (i := 0) rfl)))
def fX8_has_3 (x1 : Int32) (u : SX) : Option (Int32 × SX) := (if x1 < 0 then (gd (isB 0) (some (0, u))) else (if (u.1 5) ≤ x1 then (gd (isB 0) (some (0, u))) else (gd (isB 1) (some (1, u)))))
set_option maxHeartbeats 4000000 in
set_option maxRecDepth 100000 in
theorem wX8_has_3 {p : Program} {l : Launch} {e : Env} {s : State} {m : MethodId} {args : Array Value} {below : List Frame} {meth : Method} {c : Code} {D : va_G} {cy : Nat → ClassId} {ad st : Nat → Nat} (C : Cx RX8 cX8_has 2 (some .boolean) wsX8_has p s m args meth c) (hK : Kx D [(cy 0, .int), (cy 1, .long), (cy 2, .boolean), (cy 3, .byte), (cy 4, .object "HissHorn$Text")] st s) (hJ : JX ad) (x1 : Int32) {u : SX} {r : Int32} {u' : SX} {H : Heap} {locs : List Loc} {ls : Array Slot} (h : fX8_has_3 x1 u = some (r, u')) (hP : va_P D vwCl (VX cy ad st u) H) (hS : va_S (Ax (AX ad) s.heap.size) s.heap H locs) (hl : lv_has ls 2 [(0, .ref (ad 3)), (1, .int x1)]) : W p l e rmX8_has_3 s m args below meth c H locs 0 0 (MQ below (Qi D (VX cy ad st) (AX ad) s.heap.size r u') args s 0 0 (Ax (AX ad) s.heap.size)) (F0 m 0 ls []) := by
  unfold fX8_has_3 at h
  refine lv_iload_n C.1 C.2.1 dX8_has_0 rfl (lv_at hl 1 rfl) ?_
  refine lv_if_lt (tgt := 16) C.1 C.2.1 dX8_has_1 (by decide) (fun c1 => ?_) (fun c1 => ?_)
  · rw [if_pos c1] at h
    refine lv_iconst (v := 0) C.1 C.2.1 dX8_has_16 (by decide) ?_
    obtain ⟨hg1, h⟩ := gd_some h
    cases h
    exact rt_z hg1 C hP hS dX8_has_17
  · rw [if_neg c1] at h
    refine lv_iload_n C.1 C.2.1 dX8_has_4 rfl (lv_at hl 1 rfl) ?_
    refine lv_aload_n C.1 C.2.1 dX8_has_5 rfl (lv_at hl 0 rfl) ?_
    refine gX_3_size C hX8_has_3_X8 hK hP mX8_has_3_1 dX8_has_6 ?_
    refine lv_icmp_ge (tgt := 16) C.1 C.2.1 dX8_has_9 (by decide) (fun c9 => ?_) (fun c9 => ?_)
    · rw [if_pos c9] at h
      refine lv_iconst (v := 0) C.1 C.2.1 dX8_has_16 (by decide) ?_
      obtain ⟨hg2, h⟩ := gd_some h
      cases h
      exact rt_z hg2 C hP hS dX8_has_17
    · rw [if_neg c9] at h
      refine lv_iconst (v := 1) C.1 C.2.1 dX8_has_12 (by decide) ?_
      refine lv_goto (tgt := 17) C.1 C.2.1 dX8_has_13 (by decide) ?_
      obtain ⟨hg3, h⟩ := gd_some h
      cases h
      exact rt_z hg3 C hP hS dX8_has_17
theorem metX8_has_3 (l : Launch) (D : va_G) (cy : Nat → ClassId) (ad st : Nat → Nat) (hJ : JX ad) (sz : Nat) (x1 : Int32) {u : SX} {r : Int32} {u' : SX} (h : fX8_has_3 x1 u = some (r, u')) : Met l yX8_has wsX8_has rmX8_has_3 (va_Pc [.ref (ad 3), .int x1] (Px D [(cy 0, .int), (cy 1, .long), (cy 2, .boolean), (cy 3, .byte), (cy 4, .object "HissHorn$Text")] st (VX cy ad st) sz u)) (Qi D (VX cy ad st) (AX ad) sz r u') 0 0 (Ax (AX ad) sz) := by
  refine Met.ofW (cc := cX8_has) (maxL := 2) (ret := (some .boolean)) (by decide) rfl ?_
  intro p e s m args below meth c s₁ B hml hv
  obtain ⟨rfl, hsz, hP, hK⟩ := hv
  subst hsz
  have C : Cx RX8 cX8_has 2 (some .boolean) wsX8_has p s m _ meth c := ⟨B.exec, B.bytes, hml, B.returns, findClass_of_methodNamed B.named, atoms_spec (ws := wsX8_has) B.pre, B.notSynchronized⟩
  have hl := lv_entry ([.ref (ad 3), .int x1]) (n := 2) (Nat.le_of_ble_eq_true rfl)
  rw [lg_entry_eq]
  exact wX8_has_3 C hK hJ x1 h hP va_S.rf hl

theorem dX11_isAim_0 : decode cX11_isAim 0 = .ok (.iload_n 0, 1) := by decide +kernel
theorem dX11_isAim_1 : decode cX11_isAim 1 = .ok (.iconst 0, 1) := by decide +kernel
theorem dX11_isAim_2 : decode cX11_isAim 2 = .ok (.bipush 15, 2) := by decide +kernel
set_option maxRecDepth 20000 in
theorem ggX11_isAim_X11_within : GoodIn wsX11_isAim wsX11_within := goodIn_r _ [4] (by decide +kernel) (by decide +kernel)
set_option maxRecDepth 20000 in
theorem gX11_isAim_X11_within : GoodIn wsX11_isAim (va_wsS RX11 107 yX11_within wsX11_within) := goodIn_app (goodIn_of _ (by decide +kernel)) ggX11_isAim_X11_within
theorem dX11_isAim_4 : decode cX11_isAim 4 = .ok (.invokestatic 107, 3) := by decide +kernel
theorem dX11_isAim_7 : decode cX11_isAim 7 = .ok (.ifCond .eq 48, 3) := by decide +kernel
theorem dX11_isAim_55 : decode cX11_isAim 55 = .ok (.iconst 0, 1) := by decide +kernel
theorem dX11_isAim_56 : decode cX11_isAim 56 = .ok (.ireturn, 1) := by decide +kernel
theorem dX11_isAim_10 : decode cX11_isAim 10 = .ok (.iload_n 1, 1) := by decide +kernel
theorem dX11_isAim_11 : decode cX11_isAim 11 = .ok (.iconst 0, 1) := by decide +kernel
theorem dX11_isAim_12 : decode cX11_isAim 12 = .ok (.bipush 9, 2) := by decide +kernel
theorem dX11_isAim_14 : decode cX11_isAim 14 = .ok (.invokestatic 107, 3) := by decide +kernel
theorem dX11_isAim_17 : decode cX11_isAim 17 = .ok (.ifCond .eq 38, 3) := by decide +kernel
theorem dX11_isAim_20 : decode cX11_isAim 20 = .ok (.iload_n 2, 1) := by decide +kernel
theorem dX11_isAim_21 : decode cX11_isAim 21 = .ok (.iconst 0, 1) := by decide +kernel
theorem dX11_isAim_22 : decode cX11_isAim 22 = .ok (.bipush 23, 2) := by decide +kernel
theorem dX11_isAim_24 : decode cX11_isAim 24 = .ok (.invokestatic 107, 3) := by decide +kernel
theorem dX11_isAim_27 : decode cX11_isAim 27 = .ok (.ifCond .eq 28, 3) := by decide +kernel
theorem dX11_isAim_30 : decode cX11_isAim 30 = .ok (.iload_n 3, 1) := by decide +kernel
theorem dX11_isAim_31 : decode cX11_isAim 31 = .ok (.iconst 0, 1) := by decide +kernel
theorem dX11_isAim_32 : decode cX11_isAim 32 = .ok (.bipush 9, 2) := by decide +kernel
theorem dX11_isAim_34 : decode cX11_isAim 34 = .ok (.invokestatic 107, 3) := by decide +kernel
theorem dX11_isAim_37 : decode cX11_isAim 37 = .ok (.ifCond .eq 18, 3) := by decide +kernel
theorem dX11_isAim_40 : decode cX11_isAim 40 = .ok (.iload 4, 2) := by decide +kernel
theorem dX11_isAim_42 : decode cX11_isAim 42 = .ok (.iconst 1, 1) := by decide +kernel
theorem dX11_isAim_43 : decode cX11_isAim 43 = .ok (.bipush 40, 2) := by decide +kernel
theorem dX11_isAim_45 : decode cX11_isAim 45 = .ok (.invokestatic 107, 3) := by decide +kernel
theorem dX11_isAim_48 : decode cX11_isAim 48 = .ok (.ifCond .eq 7, 3) := by decide +kernel
theorem dX11_isAim_51 : decode cX11_isAim 51 = .ok (.iconst 1, 1) := by decide +kernel
theorem dX11_isAim_52 : decode cX11_isAim 52 = .ok (.goto 4, 3) := by decide +kernel
/-- HissHorn.isAim(IIIII)Z -/
def rmX11_isAim : Room := { frames := 1, cells := 0, slots := 0, locals := 22 }
def fX11_isAim (x0 : Int32) (x1 : Int32) (x2 : Int32) (x3 : Int32) (x4 : Int32) : Option Int32 := ((fX11_within x0 0 15).bind fun r1 => (if r1 = 0 then (gd (isB 0) (some 0)) else ((fX11_within x1 0 9).bind fun r5 => (if r5 = 0 then (gd (isB 0) (some 0)) else ((fX11_within x2 0 23).bind fun r9 => (if r9 = 0 then (gd (isB 0) (some 0)) else ((fX11_within x3 0 9).bind fun r13 => (if r13 = 0 then (gd (isB 0) (some 0)) else ((fX11_within x4 1 40).bind fun r17 => (if r17 = 0 then (gd (isB 0) (some 0)) else (gd (isB 1) (some 1))))))))))))
set_option maxHeartbeats 4000000 in
set_option maxRecDepth 100000 in
theorem wX11_isAim {p : Program} {l : Launch} {e : Env} {s : State} {m : MethodId} {args : Array Value} {below : List Frame} {meth : Method} {c : Code} {D : va_G} {cy : Nat → ClassId} {st : Nat → Nat} (C : Cx RX11 cX11_isAim 5 (some .boolean) wsX11_isAim p s m args meth c) (hK : Kx D [(cy 0, .int), (cy 1, .long), (cy 2, .boolean), (cy 3, .byte), (cy 4, .object "HissHorn$Text")] st s) (x0 : Int32) (x1 : Int32) (x2 : Int32) (x3 : Int32) (x4 : Int32) {r : Int32} {H : Heap} {locs : List Loc} {ls : Array Slot} (h : fX11_isAim x0 x1 x2 x3 x4 = some r) (hP : va_P D vwCl (V0 u00) H) (hS : va_S (Ax (A0) s.heap.size) s.heap H locs) (hl : lv_has ls 5 [(0, .int x0), (1, .int x1), (2, .int x2), (3, .int x3), (4, .int x4)]) : W p l e rmX11_isAim s m args below meth c H locs 0 0 (MQ below (Qi D (V0) (A0) s.heap.size r u00) args s 0 0 (Ax (A0) s.heap.size)) (F0 m 0 ls []) := by
  unfold fX11_isAim at h
  refine lv_iload_n C.1 C.2.1 dX11_isAim_0 rfl (lv_at hl 0 rfl) ?_
  refine lv_iconst (v := 0) C.1 C.2.1 dX11_isAim_1 (by decide) ?_
  refine lv_bipush (v := 15) C.1 C.2.1 dX11_isAim_2 (by decide) ?_
  obtain ⟨r1, hc3, h⟩ := bd_some h
  refine cs_i (As := [.int x0, .int 0, .int 15]) (rest := []) C hK hP hS (metX11_within l D cy st _ x0 0 15 hc3) (va_cwS 3 C.2.2.2.2.2.1 gX11_isAim_X11_within rfl rfl rfl (by decide +kernel) ⟨(Nat.le_of_ble_eq_true rfl), (Nat.le_of_ble_eq_true rfl)⟩) rfl hl.1 rfl (Nat.le_of_ble_eq_true rfl) dX11_isAim_4 ⟨Nat.zero_le _, Nat.zero_le _⟩ (fun H locs hP hS => ?_)
  refine lv_if_eq (tgt := 55) C.1 C.2.1 dX11_isAim_7 (by decide) (fun c7 => ?_) (fun c7 => ?_)
  · rw [if_pos c7] at h
    refine lv_iconst (v := 0) C.1 C.2.1 dX11_isAim_55 (by decide) ?_
    obtain ⟨hg4, h⟩ := gd_some h
    cases h
    exact rt_z hg4 C hP hS dX11_isAim_56
  · rw [if_neg c7] at h
    refine lv_iload_n C.1 C.2.1 dX11_isAim_10 rfl (lv_at hl 1 rfl) ?_
    refine lv_iconst (v := 0) C.1 C.2.1 dX11_isAim_11 (by decide) ?_
    refine lv_bipush (v := 9) C.1 C.2.1 dX11_isAim_12 (by decide) ?_
    obtain ⟨r5, hc7, h⟩ := bd_some h
    refine cs_i (As := [.int x1, .int 0, .int 9]) (rest := []) C hK hP hS (metX11_within l D cy st _ x1 0 9 hc7) (va_cwS 3 C.2.2.2.2.2.1 gX11_isAim_X11_within rfl rfl rfl (by decide +kernel) ⟨(Nat.le_of_ble_eq_true rfl), (Nat.le_of_ble_eq_true rfl)⟩) rfl hl.1 rfl (Nat.le_of_ble_eq_true rfl) dX11_isAim_14 ⟨Nat.zero_le _, Nat.zero_le _⟩ (fun H locs hP hS => ?_)
    refine lv_if_eq (tgt := 55) C.1 C.2.1 dX11_isAim_17 (by decide) (fun c17 => ?_) (fun c17 => ?_)
    · rw [if_pos c17] at h
      refine lv_iconst (v := 0) C.1 C.2.1 dX11_isAim_55 (by decide) ?_
      obtain ⟨hg8, h⟩ := gd_some h
      cases h
      exact rt_z hg8 C hP hS dX11_isAim_56
    · rw [if_neg c17] at h
      refine lv_iload_n C.1 C.2.1 dX11_isAim_20 rfl (lv_at hl 2 rfl) ?_
      refine lv_iconst (v := 0) C.1 C.2.1 dX11_isAim_21 (by decide) ?_
      refine lv_bipush (v := 23) C.1 C.2.1 dX11_isAim_22 (by decide) ?_
      obtain ⟨r9, hc11, h⟩ := bd_some h
      refine cs_i (As := [.int x2, .int 0, .int 23]) (rest := []) C hK hP hS (metX11_within l D cy st _ x2 0 23 hc11) (va_cwS 3 C.2.2.2.2.2.1 gX11_isAim_X11_within rfl rfl rfl (by decide +kernel) ⟨(Nat.le_of_ble_eq_true rfl), (Nat.le_of_ble_eq_true rfl)⟩) rfl hl.1 rfl (Nat.le_of_ble_eq_true rfl) dX11_isAim_24 ⟨Nat.zero_le _, Nat.zero_le _⟩ (fun H locs hP hS => ?_)
      refine lv_if_eq (tgt := 55) C.1 C.2.1 dX11_isAim_27 (by decide) (fun c27 => ?_) (fun c27 => ?_)
      · rw [if_pos c27] at h
        refine lv_iconst (v := 0) C.1 C.2.1 dX11_isAim_55 (by decide) ?_
        obtain ⟨hg12, h⟩ := gd_some h
        cases h
        exact rt_z hg12 C hP hS dX11_isAim_56
      · rw [if_neg c27] at h
        refine lv_iload_n C.1 C.2.1 dX11_isAim_30 rfl (lv_at hl 3 rfl) ?_
        refine lv_iconst (v := 0) C.1 C.2.1 dX11_isAim_31 (by decide) ?_
        refine lv_bipush (v := 9) C.1 C.2.1 dX11_isAim_32 (by decide) ?_
        obtain ⟨r13, hc15, h⟩ := bd_some h
        refine cs_i (As := [.int x3, .int 0, .int 9]) (rest := []) C hK hP hS (metX11_within l D cy st _ x3 0 9 hc15) (va_cwS 3 C.2.2.2.2.2.1 gX11_isAim_X11_within rfl rfl rfl (by decide +kernel) ⟨(Nat.le_of_ble_eq_true rfl), (Nat.le_of_ble_eq_true rfl)⟩) rfl hl.1 rfl (Nat.le_of_ble_eq_true rfl) dX11_isAim_34 ⟨Nat.zero_le _, Nat.zero_le _⟩ (fun H locs hP hS => ?_)
        refine lv_if_eq (tgt := 55) C.1 C.2.1 dX11_isAim_37 (by decide) (fun c37 => ?_) (fun c37 => ?_)
        · rw [if_pos c37] at h
          refine lv_iconst (v := 0) C.1 C.2.1 dX11_isAim_55 (by decide) ?_
          obtain ⟨hg16, h⟩ := gd_some h
          cases h
          exact rt_z hg16 C hP hS dX11_isAim_56
        · rw [if_neg c37] at h
          refine lv_iload C.1 C.2.1 dX11_isAim_40 (lv_at hl 4 rfl) ?_
          refine lv_iconst (v := 1) C.1 C.2.1 dX11_isAim_42 (by decide) ?_
          refine lv_bipush (v := 40) C.1 C.2.1 dX11_isAim_43 (by decide) ?_
          obtain ⟨r17, hc19, h⟩ := bd_some h
          refine cs_i (As := [.int x4, .int 1, .int 40]) (rest := []) C hK hP hS (metX11_within l D cy st _ x4 1 40 hc19) (va_cwS 3 C.2.2.2.2.2.1 gX11_isAim_X11_within rfl rfl rfl (by decide +kernel) ⟨(Nat.le_of_ble_eq_true rfl), (Nat.le_of_ble_eq_true rfl)⟩) rfl hl.1 rfl (Nat.le_of_ble_eq_true rfl) dX11_isAim_45 ⟨Nat.zero_le _, Nat.zero_le _⟩ (fun H locs hP hS => ?_)
          refine lv_if_eq (tgt := 55) C.1 C.2.1 dX11_isAim_48 (by decide) (fun c48 => ?_) (fun c48 => ?_)
          · rw [if_pos c48] at h
            refine lv_iconst (v := 0) C.1 C.2.1 dX11_isAim_55 (by decide) ?_
            obtain ⟨hg20, h⟩ := gd_some h
            cases h
            exact rt_z hg20 C hP hS dX11_isAim_56
          · rw [if_neg c48] at h
            refine lv_iconst (v := 1) C.1 C.2.1 dX11_isAim_51 (by decide) ?_
            refine lv_goto (tgt := 56) C.1 C.2.1 dX11_isAim_52 (by decide) ?_
            obtain ⟨hg21, h⟩ := gd_some h
            cases h
            exact rt_z hg21 C hP hS dX11_isAim_56
theorem metX11_isAim (l : Launch) (D : va_G) (cy : Nat → ClassId) (st : Nat → Nat) (sz : Nat) (x0 : Int32) (x1 : Int32) (x2 : Int32) (x3 : Int32) (x4 : Int32) {r : Int32} (h : fX11_isAim x0 x1 x2 x3 x4 = some r) : Met l yX11_isAim wsX11_isAim rmX11_isAim (va_Pc [.int x0, .int x1, .int x2, .int x3, .int x4] (Px D [(cy 0, .int), (cy 1, .long), (cy 2, .boolean), (cy 3, .byte), (cy 4, .object "HissHorn$Text")] st V0 sz u00)) (Qi D V0 A0 sz r u00) 0 0 (Ax A0 sz) := by
  refine Met.ofW (cc := cX11_isAim) (maxL := 5) (ret := (some .boolean)) (by decide) rfl ?_
  intro p e s m args below meth c s₁ B hml hv
  obtain ⟨rfl, hsz, hP, hK⟩ := hv
  subst hsz
  have C : Cx RX11 cX11_isAim 5 (some .boolean) wsX11_isAim p s m _ meth c := ⟨B.exec, B.bytes, hml, B.returns, findClass_of_methodNamed B.named, atoms_spec (ws := wsX11_isAim) B.pre, B.notSynchronized⟩
  have hl := lv_entry ([.int x0, .int x1, .int x2, .int x3, .int x4]) (n := 5) (Nat.le_of_ble_eq_true rfl)
  rw [lg_entry_eq]
  exact wX11_isAim C hK x0 x1 x2 x3 x4 h hP va_S.rf hl

theorem dX8_set_0 : decode cX8_set 0 = .ok (.iload_n 1, 1) := by decide +kernel
theorem dX8_set_1 : decode cX8_set 1 = .ok (.ifCond .lt 19, 3) := by decide +kernel
theorem dX8_set_20 : decode cX8_set 20 = .ok (.return_, 1) := by decide +kernel
theorem dX8_set_4 : decode cX8_set 4 = .ok (.iload_n 1, 1) := by decide +kernel
theorem dX8_set_5 : decode cX8_set 5 = .ok (.aload_n 0, 1) := by decide +kernel
theorem dX8_set_6 : decode cX8_set 6 = .ok (.getfield 33, 3) := by decide +kernel
theorem dX8_set_9 : decode cX8_set 9 = .ok (.arraylength, 1) := by decide +kernel
theorem dX8_set_10 : decode cX8_set 10 = .ok (.if_icmp .ge 10, 3) := by decide +kernel
theorem dX8_set_13 : decode cX8_set 13 = .ok (.aload_n 0, 1) := by decide +kernel
theorem dX8_set_14 : decode cX8_set 14 = .ok (.getfield 33, 3) := by decide +kernel
theorem dX8_set_17 : decode cX8_set 17 = .ok (.iload_n 1, 1) := by decide +kernel
theorem dX8_set_18 : decode cX8_set 18 = .ok (.iload_n 2, 1) := by decide +kernel
theorem dX8_set_19 : decode cX8_set 19 = .ok (.iastore, 1) := by decide +kernel
/-- HissHorn$Shelf.set(II)V of cell 3 -/
def rmX8_set_3 : Room := { frames := 0, cells := 0, slots := 0, locals := 0 }
theorem hX8_set_3_X8 : ∀ w ∈ u_ws RX8 TX8 5, w ∈ wsX8_set := fun w h => (List.mem_cons_of_mem _ (List.mem_append_right _ h))
theorem mX8_set_3_1 : Cond.fieldLink RX8 33 "HissHorn$Shelf" "values" "[I" ∈ wsX8_set := (List.mem_cons_of_mem _ (List.mem_append_left _ (List.mem_of_getElem? (i := 0) rfl)))
def fX8_set_3 (x1 : Int32) (x2 : Int32) (u : SX) : Option (Int32 × SX) := (if x1 < 0 then (some (0, u)) else (if 6 ≤ x1 then (some (0, u)) else (gd (inb x1 6) (lt (sA u 16 (upd (u.2.1 16) x1.toNatClampNeg x2)) fun u2 => (some (0, u2))))))
set_option maxHeartbeats 4000000 in
set_option maxRecDepth 100000 in
theorem wX8_set_3 {p : Program} {l : Launch} {e : Env} {s : State} {m : MethodId} {args : Array Value} {below : List Frame} {meth : Method} {c : Code} {D : va_G} {cy : Nat → ClassId} {ad st : Nat → Nat} (C : Cx RX8 cX8_set 3 none wsX8_set p s m args meth c) (hK : Kx D [(cy 0, .int), (cy 1, .long), (cy 2, .boolean), (cy 3, .byte), (cy 4, .object "HissHorn$Text")] st s) (hJ : JX ad) (x1 : Int32) (x2 : Int32) {u : SX} {r : Int32} {u' : SX} {H : Heap} {locs : List Loc} {ls : Array Slot} (h : fX8_set_3 x1 x2 u = some (r, u')) (hP : va_P D vwCl (VX cy ad st u) H) (hS : va_S (Ax (AX ad) s.heap.size) s.heap H locs) (hl : lv_has ls 3 [(0, .ref (ad 3)), (1, .int x1), (2, .int x2)]) : W p l e rmX8_set_3 s m args below meth c H locs 0 0 (MQ below (Qv D (VX cy ad st) (AX ad) s.heap.size r u') args s 0 0 (Ax (AX ad) s.heap.size)) (F0 m 0 ls []) := by
  unfold fX8_set_3 at h
  refine lv_iload_n C.1 C.2.1 dX8_set_0 rfl (lv_at hl 1 rfl) ?_
  refine lv_if_lt (tgt := 20) C.1 C.2.1 dX8_set_1 (by decide) (fun c1 => ?_) (fun c1 => ?_)
  · rw [if_pos c1] at h
    cases h
    exact rt_v C hP hS dX8_set_20
  · rw [if_neg c1] at h
    refine lv_iload_n C.1 C.2.1 dX8_set_4 rfl (lv_at hl 1 rfl) ?_
    refine lv_aload_n C.1 C.2.1 dX8_set_5 rfl (lv_at hl 0 rfl) ?_
    refine gX_3_values C hX8_set_3_X8 hK hP mX8_set_3_1 dX8_set_6 ?_
    refine va_alen (v := 6) C.1 C.2.1 hK.1 hP 16 0 rfl rfl rfl dX8_set_9 ?_
    refine lv_icmp_ge (tgt := 20) C.1 C.2.1 dX8_set_10 (by decide) (fun c10 => ?_) (fun c10 => ?_)
    · rw [if_pos c10] at h
      cases h
      exact rt_v C hP hS dX8_set_20
    · rw [if_neg c10] at h
      refine lv_aload_n C.1 C.2.1 dX8_set_13 rfl (lv_at hl 0 rfl) ?_
      refine gX_3_values C hX8_set_3_X8 hK hP mX8_set_3_1 dX8_set_14 ?_
      refine lv_iload_n C.1 C.2.1 dX8_set_17 rfl (lv_at hl 1 rfl) ?_
      refine lv_iload_n C.1 C.2.1 dX8_set_18 rfl (lv_at hl 2 rfl) ?_
      obtain ⟨hg1, h⟩ := gd_some h
      refine tX_16 C hK hP hJ hS hg1 dX8_set_19 (fun H locs hP hS => ?_)
      obtain ⟨u2, hu3, h⟩ := lt_some h
      rw [← hu3] at hP
      cases h
      exact rt_v C hP hS dX8_set_20
theorem metX8_set_3 (l : Launch) (D : va_G) (cy : Nat → ClassId) (ad st : Nat → Nat) (hJ : JX ad) (sz : Nat) (x1 : Int32) (x2 : Int32) {u : SX} {r : Int32} {u' : SX} (h : fX8_set_3 x1 x2 u = some (r, u')) : Met l yX8_set wsX8_set rmX8_set_3 (va_Pc [.ref (ad 3), .int x1, .int x2] (Px D [(cy 0, .int), (cy 1, .long), (cy 2, .boolean), (cy 3, .byte), (cy 4, .object "HissHorn$Text")] st (VX cy ad st) sz u)) (Qv D (VX cy ad st) (AX ad) sz r u') 0 0 (Ax (AX ad) sz) := by
  refine Met.ofW (cc := cX8_set) (maxL := 3) (ret := none) (by decide) rfl ?_
  intro p e s m args below meth c s₁ B hml hv
  obtain ⟨rfl, hsz, hP, hK⟩ := hv
  subst hsz
  have C : Cx RX8 cX8_set 3 none wsX8_set p s m _ meth c := ⟨B.exec, B.bytes, hml, B.returns, findClass_of_methodNamed B.named, atoms_spec (ws := wsX8_set) B.pre, B.notSynchronized⟩
  have hl := lv_entry ([.ref (ad 3), .int x1, .int x2]) (n := 3) (Nat.le_of_ble_eq_true rfl)
  rw [lg_entry_eq]
  exact wX8_set_3 C hK hJ x1 x2 h hP va_S.rf hl

theorem dX8_setAim_0 : decode cX8_setAim 0 = .ok (.aload_n 0, 1) := by decide +kernel
theorem dX8_setAim_1 : decode cX8_setAim 1 = .ok (.iconst 0, 1) := by decide +kernel
theorem dX8_setAim_2 : decode cX8_setAim 2 = .ok (.iload_n 1, 1) := by decide +kernel
set_option maxRecDepth 20000 in
theorem ggX8_setAim_X8_set : GoodIn wsX8_setAim wsX8_set := goodIn_r _ [5, 6, 7, 8, 9, 10, 11] (by decide +kernel) (by decide +kernel)
set_option maxRecDepth 20000 in
theorem gX8_setAim_X8_set : GoodIn wsX8_setAim (wsV RX8 44 RX8 yX8_set wsX8_set) := goodIn_app (goodIn_of _ (by decide +kernel)) ggX8_setAim_X8_set
theorem dX8_setAim_3 : decode cX8_setAim 3 = .ok (.invokevirtual 44, 3) := by decide +kernel
theorem dX8_setAim_6 : decode cX8_setAim 6 = .ok (.aload_n 0, 1) := by decide +kernel
theorem dX8_setAim_7 : decode cX8_setAim 7 = .ok (.iconst 1, 1) := by decide +kernel
theorem dX8_setAim_8 : decode cX8_setAim 8 = .ok (.iload_n 2, 1) := by decide +kernel
theorem dX8_setAim_9 : decode cX8_setAim 9 = .ok (.invokevirtual 44, 3) := by decide +kernel
theorem dX8_setAim_12 : decode cX8_setAim 12 = .ok (.aload_n 0, 1) := by decide +kernel
theorem dX8_setAim_13 : decode cX8_setAim 13 = .ok (.iconst 2, 1) := by decide +kernel
theorem dX8_setAim_14 : decode cX8_setAim 14 = .ok (.iload_n 3, 1) := by decide +kernel
theorem dX8_setAim_15 : decode cX8_setAim 15 = .ok (.invokevirtual 44, 3) := by decide +kernel
theorem dX8_setAim_18 : decode cX8_setAim 18 = .ok (.aload_n 0, 1) := by decide +kernel
theorem dX8_setAim_19 : decode cX8_setAim 19 = .ok (.iconst 3, 1) := by decide +kernel
theorem dX8_setAim_20 : decode cX8_setAim 20 = .ok (.iload 4, 2) := by decide +kernel
theorem dX8_setAim_22 : decode cX8_setAim 22 = .ok (.invokevirtual 44, 3) := by decide +kernel
theorem dX8_setAim_25 : decode cX8_setAim 25 = .ok (.aload_n 0, 1) := by decide +kernel
theorem dX8_setAim_26 : decode cX8_setAim 26 = .ok (.iconst 4, 1) := by decide +kernel
theorem dX8_setAim_27 : decode cX8_setAim 27 = .ok (.iload 5, 2) := by decide +kernel
theorem dX8_setAim_29 : decode cX8_setAim 29 = .ok (.invokevirtual 44, 3) := by decide +kernel
theorem dX8_setAim_32 : decode cX8_setAim 32 = .ok (.aload_n 0, 1) := by decide +kernel
theorem dX8_setAim_33 : decode cX8_setAim 33 = .ok (.iconst 5, 1) := by decide +kernel
theorem dX8_setAim_34 : decode cX8_setAim 34 = .ok (.iload 6, 2) := by decide +kernel
theorem dX8_setAim_36 : decode cX8_setAim 36 = .ok (.invokevirtual 44, 3) := by decide +kernel
theorem dX8_setAim_39 : decode cX8_setAim 39 = .ok (.return_, 1) := by decide +kernel
/-- HissHorn$Shelf.setAim(IIIIII)V of cell 3 -/
def rmX8_setAim_3 : Room := { frames := 1, cells := 0, slots := 0, locals := 22 }
def fX8_setAim_3 (x1 : Int32) (x2 : Int32) (x3 : Int32) (x4 : Int32) (x5 : Int32) (x6 : Int32) (u : SX) : Option (Int32 × SX) := ((fX8_set_3 0 x1 u).bind fun q => match q with | (r1, u2) => ((fX8_set_3 1 x2 u2).bind fun q => match q with | (r4, u5) => ((fX8_set_3 2 x3 u5).bind fun q => match q with | (r7, u8) => ((fX8_set_3 3 x4 u8).bind fun q => match q with | (r10, u11) => ((fX8_set_3 4 x5 u11).bind fun q => match q with | (r13, u14) => ((fX8_set_3 5 x6 u14).bind fun q => match q with | (r16, u17) => (some (0, u17))))))))
set_option maxHeartbeats 4000000 in
set_option maxRecDepth 100000 in
theorem wX8_setAim_3 {p : Program} {l : Launch} {e : Env} {s : State} {m : MethodId} {args : Array Value} {below : List Frame} {meth : Method} {c : Code} {D : va_G} {cy : Nat → ClassId} {ad st : Nat → Nat} (C : Cx RX8 cX8_setAim 7 none wsX8_setAim p s m args meth c) (hK : Kx D [(cy 0, .int), (cy 1, .long), (cy 2, .boolean), (cy 3, .byte), (cy 4, .object "HissHorn$Text")] st s) (hJ : JX ad) (x1 : Int32) (x2 : Int32) (x3 : Int32) (x4 : Int32) (x5 : Int32) (x6 : Int32) {u : SX} {r : Int32} {u' : SX} {H : Heap} {locs : List Loc} {ls : Array Slot} (h : fX8_setAim_3 x1 x2 x3 x4 x5 x6 u = some (r, u')) (hP : va_P D vwCl (VX cy ad st u) H) (hS : va_S (Ax (AX ad) s.heap.size) s.heap H locs) (hl : lv_has ls 7 [(0, .ref (ad 3)), (1, .int x1), (2, .int x2), (3, .int x3), (4, .int x4), (5, .int x5), (6, .int x6)]) : W p l e rmX8_setAim_3 s m args below meth c H locs 0 0 (MQ below (Qv D (VX cy ad st) (AX ad) s.heap.size r u') args s 0 0 (Ax (AX ad) s.heap.size)) (F0 m 0 ls []) := by
  unfold fX8_setAim_3 at h
  refine lv_aload_n C.1 C.2.1 dX8_setAim_0 rfl (lv_at hl 0 rfl) ?_
  refine lv_iconst (v := 0) C.1 C.2.1 dX8_setAim_1 (by decide) ?_
  refine lv_iload_n C.1 C.2.1 dX8_setAim_2 rfl (lv_at hl 1 rfl) ?_
  obtain ⟨⟨r1, u2⟩, hc3, h⟩ := bd_some h
  try dsimp only at h
  refine cg_v (As := [.int 0, .int x1]) (rest := []) C hK hP hS (metX8_set_3 l D cy ad st hJ _ 0 x1 hc3) (cwV 2 C.2.2.2.2.2.1 gX8_setAim_X8_set rfl rfl rfl (by decide +kernel) ⟨(Nat.le_of_ble_eq_true rfl), (Nat.le_of_ble_eq_true rfl)⟩) 3 8 rfl rfl rfl hl.1 rfl (Nat.le_of_ble_eq_true rfl) dX8_setAim_3 ⟨Nat.zero_le _, Nat.zero_le _⟩ (fun H locs hP hS => ?_)
  refine lv_aload_n C.1 C.2.1 dX8_setAim_6 rfl (lv_at hl 0 rfl) ?_
  refine lv_iconst (v := 1) C.1 C.2.1 dX8_setAim_7 (by decide) ?_
  refine lv_iload_n C.1 C.2.1 dX8_setAim_8 rfl (lv_at hl 2 rfl) ?_
  obtain ⟨⟨r4, u5⟩, hc6, h⟩ := bd_some h
  try dsimp only at h
  refine cg_v (As := [.int 1, .int x2]) (rest := []) C hK hP hS (metX8_set_3 l D cy ad st hJ _ 1 x2 hc6) (cwV 2 C.2.2.2.2.2.1 gX8_setAim_X8_set rfl rfl rfl (by decide +kernel) ⟨(Nat.le_of_ble_eq_true rfl), (Nat.le_of_ble_eq_true rfl)⟩) 3 8 rfl rfl rfl hl.1 rfl (Nat.le_of_ble_eq_true rfl) dX8_setAim_9 ⟨Nat.zero_le _, Nat.zero_le _⟩ (fun H locs hP hS => ?_)
  refine lv_aload_n C.1 C.2.1 dX8_setAim_12 rfl (lv_at hl 0 rfl) ?_
  refine lv_iconst (v := 2) C.1 C.2.1 dX8_setAim_13 (by decide) ?_
  refine lv_iload_n C.1 C.2.1 dX8_setAim_14 rfl (lv_at hl 3 rfl) ?_
  obtain ⟨⟨r7, u8⟩, hc9, h⟩ := bd_some h
  try dsimp only at h
  refine cg_v (As := [.int 2, .int x3]) (rest := []) C hK hP hS (metX8_set_3 l D cy ad st hJ _ 2 x3 hc9) (cwV 2 C.2.2.2.2.2.1 gX8_setAim_X8_set rfl rfl rfl (by decide +kernel) ⟨(Nat.le_of_ble_eq_true rfl), (Nat.le_of_ble_eq_true rfl)⟩) 3 8 rfl rfl rfl hl.1 rfl (Nat.le_of_ble_eq_true rfl) dX8_setAim_15 ⟨Nat.zero_le _, Nat.zero_le _⟩ (fun H locs hP hS => ?_)
  refine lv_aload_n C.1 C.2.1 dX8_setAim_18 rfl (lv_at hl 0 rfl) ?_
  refine lv_iconst (v := 3) C.1 C.2.1 dX8_setAim_19 (by decide) ?_
  refine lv_iload C.1 C.2.1 dX8_setAim_20 (lv_at hl 4 rfl) ?_
  obtain ⟨⟨r10, u11⟩, hc12, h⟩ := bd_some h
  try dsimp only at h
  refine cg_v (As := [.int 3, .int x4]) (rest := []) C hK hP hS (metX8_set_3 l D cy ad st hJ _ 3 x4 hc12) (cwV 2 C.2.2.2.2.2.1 gX8_setAim_X8_set rfl rfl rfl (by decide +kernel) ⟨(Nat.le_of_ble_eq_true rfl), (Nat.le_of_ble_eq_true rfl)⟩) 3 8 rfl rfl rfl hl.1 rfl (Nat.le_of_ble_eq_true rfl) dX8_setAim_22 ⟨Nat.zero_le _, Nat.zero_le _⟩ (fun H locs hP hS => ?_)
  refine lv_aload_n C.1 C.2.1 dX8_setAim_25 rfl (lv_at hl 0 rfl) ?_
  refine lv_iconst (v := 4) C.1 C.2.1 dX8_setAim_26 (by decide) ?_
  refine lv_iload C.1 C.2.1 dX8_setAim_27 (lv_at hl 5 rfl) ?_
  obtain ⟨⟨r13, u14⟩, hc15, h⟩ := bd_some h
  try dsimp only at h
  refine cg_v (As := [.int 4, .int x5]) (rest := []) C hK hP hS (metX8_set_3 l D cy ad st hJ _ 4 x5 hc15) (cwV 2 C.2.2.2.2.2.1 gX8_setAim_X8_set rfl rfl rfl (by decide +kernel) ⟨(Nat.le_of_ble_eq_true rfl), (Nat.le_of_ble_eq_true rfl)⟩) 3 8 rfl rfl rfl hl.1 rfl (Nat.le_of_ble_eq_true rfl) dX8_setAim_29 ⟨Nat.zero_le _, Nat.zero_le _⟩ (fun H locs hP hS => ?_)
  refine lv_aload_n C.1 C.2.1 dX8_setAim_32 rfl (lv_at hl 0 rfl) ?_
  refine lv_iconst (v := 5) C.1 C.2.1 dX8_setAim_33 (by decide) ?_
  refine lv_iload C.1 C.2.1 dX8_setAim_34 (lv_at hl 6 rfl) ?_
  obtain ⟨⟨r16, u17⟩, hc18, h⟩ := bd_some h
  try dsimp only at h
  refine cg_v (As := [.int 5, .int x6]) (rest := []) C hK hP hS (metX8_set_3 l D cy ad st hJ _ 5 x6 hc18) (cwV 2 C.2.2.2.2.2.1 gX8_setAim_X8_set rfl rfl rfl (by decide +kernel) ⟨(Nat.le_of_ble_eq_true rfl), (Nat.le_of_ble_eq_true rfl)⟩) 3 8 rfl rfl rfl hl.1 rfl (Nat.le_of_ble_eq_true rfl) dX8_setAim_36 ⟨Nat.zero_le _, Nat.zero_le _⟩ (fun H locs hP hS => ?_)
  cases h
  exact rt_v C hP hS dX8_setAim_39
theorem metX8_setAim_3 (l : Launch) (D : va_G) (cy : Nat → ClassId) (ad st : Nat → Nat) (hJ : JX ad) (sz : Nat) (x1 : Int32) (x2 : Int32) (x3 : Int32) (x4 : Int32) (x5 : Int32) (x6 : Int32) {u : SX} {r : Int32} {u' : SX} (h : fX8_setAim_3 x1 x2 x3 x4 x5 x6 u = some (r, u')) : Met l yX8_setAim wsX8_setAim rmX8_setAim_3 (va_Pc [.ref (ad 3), .int x1, .int x2, .int x3, .int x4, .int x5, .int x6] (Px D [(cy 0, .int), (cy 1, .long), (cy 2, .boolean), (cy 3, .byte), (cy 4, .object "HissHorn$Text")] st (VX cy ad st) sz u)) (Qv D (VX cy ad st) (AX ad) sz r u') 0 0 (Ax (AX ad) sz) := by
  refine Met.ofW (cc := cX8_setAim) (maxL := 7) (ret := none) (by decide) rfl ?_
  intro p e s m args below meth c s₁ B hml hv
  obtain ⟨rfl, hsz, hP, hK⟩ := hv
  subst hsz
  have C : Cx RX8 cX8_setAim 7 none wsX8_setAim p s m _ meth c := ⟨B.exec, B.bytes, hml, B.returns, findClass_of_methodNamed B.named, atoms_spec (ws := wsX8_setAim) B.pre, B.notSynchronized⟩
  have hl := lv_entry ([.ref (ad 3), .int x1, .int x2, .int x3, .int x4, .int x5, .int x6]) (n := 7) (Nat.le_of_ble_eq_true rfl)
  rw [lg_entry_eq]
  exact wX8_setAim_3 C hK hJ x1 x2 x3 x4 x5 x6 h hP va_S.rf hl

theorem dX8_ask_18 : decode cX8_ask 18 = .ok (.astore_n 2, 1) := by decide +kernel
theorem dX8_ask_19 : decode cX8_ask 19 = .ok (.aload_n 2, 1) := by decide +kernel
theorem dX8_ask_20 : decode cX8_ask 20 = .ok (.ifnonnull 7, 3) := by decide +kernel
theorem dX8_ask_23 : decode cX8_ask 23 = .ok (.iconst 0, 1) := by decide +kernel
theorem dX8_ask_24 : decode cX8_ask 24 = .ok (.goto 15, 3) := by decide +kernel
theorem dX8_ask_39 : decode cX8_ask 39 = .ok (.ireturn, 1) := by decide +kernel
theorem dX8_ask_0 : decode cX8_ask 0 = .ok (.aload_n 0, 1) := by decide +kernel
theorem dX8_ask_1 : decode cX8_ask 1 = .ok (.iload_n 1, 1) := by decide +kernel
set_option maxRecDepth 20000 in
theorem ggX8_ask_X8_has : GoodIn wsX8_ask wsX8_has := goodIn_r _ [8, 9, 31, 32, 33, 34, 35] (by decide +kernel) (by decide +kernel)
set_option maxRecDepth 20000 in
theorem gX8_ask_X8_has : GoodIn wsX8_ask (wsV RX8 48 RX8 yX8_has wsX8_has) := goodIn_app (goodIn_of _ (by decide +kernel)) ggX8_ask_X8_has
theorem dX8_ask_2 : decode cX8_ask 2 = .ok (.invokevirtual 48, 3) := by decide +kernel
theorem dX8_ask_5 : decode cX8_ask 5 = .ok (.ifCond .eq 12, 3) := by decide +kernel
theorem dX8_ask_17 : decode cX8_ask 17 = .ok (.aconst_null, 1) := by decide +kernel
theorem dX8_ask_8 : decode cX8_ask 8 = .ok (.aload_n 0, 1) := by decide +kernel
theorem dX8_ask_9 : decode cX8_ask 9 = .ok (.getfield 23, 3) := by decide +kernel
theorem dX8_ask_12 : decode cX8_ask 12 = .ok (.iload_n 1, 1) := by decide +kernel
/-- HissHorn$Shelf.ask(I)I of cell 3 -/
def rmX8_ask_3 : Room := { frames := 1, cells := 0, slots := 0, locals := 21 }
def GX8_ask_3_18  (u : SX) : Option (Int32 × SX) := (some (0, u))
theorem hX8_ask_3_X8 : ∀ w ∈ u_ws RX8 TX8 5, w ∈ wsX8_ask := fun w h => (List.mem_cons_of_mem _ (List.mem_append_left _ (List.mem_append_right _ h)))
theorem mX8_ask_3_1 : Cond.fieldLink RX8 23 "HissHorn$Shelf" "texts" "[LHissHorn$Text;" ∈ wsX8_ask := (List.mem_cons_of_mem _ (List.mem_append_left _ (List.mem_append_left _ (List.mem_append_left _ (List.mem_of_getElem? (i := 0) rfl)))))
def fX8_ask_3 (x1 : Int32) (u : SX) : Option (Int32 × SX) := ((fX8_has_3 x1 u).bind fun q => match q with | (r1, u2) => (if r1 = 0 then (GX8_ask_3_18 u2) else none))
set_option maxHeartbeats 4000000 in
set_option maxRecDepth 100000 in
theorem wGX8_ask_3_18 {p : Program} {l : Launch} {e : Env} {s : State} {m : MethodId} {args : Array Value} {below : List Frame} {meth : Method} {c : Code} {D : va_G} {cy : Nat → ClassId} {ad st : Nat → Nat} (C : Cx RX8 cX8_ask 3 (some .int) wsX8_ask p s m args meth c) (hK : Kx D [(cy 0, .int), (cy 1, .long), (cy 2, .boolean), (cy 3, .byte), (cy 4, .object "HissHorn$Text")] st s) (hJ : JX ad) {r : Int32} {u' : SX}   (u : SX) (H : Heap) (locs : List Loc) (ls : Array Slot) (h : GX8_ask_3_18  u = some (r, u')) (hP : va_P D vwCl (VX cy ad st u) H) (hS : va_S (Ax (AX ad) s.heap.size) s.heap H locs) (hl : lv_has ls 3 [(0, .ref (ad 3))]) : W p l e rmX8_ask_3 s m args below meth c H locs 0 0 (MQ below (Qi D (VX cy ad st) (AX ad) s.heap.size r u') args s 0 0 (Ax (AX ad) s.heap.size)) (F0 m 18 ls [.null]) := by
  unfold GX8_ask_3_18 at h
  refine lv_astore_nN (lv' := [(2, .null), (0, .ref (ad 3))]) C.1 C.2.1 dX8_ask_18 rfl hl (by decide) rfl (fun ls hl => ?_)
  replace hl := lv_sub (l' := [(0, .ref (ad 3)), (2, .null)]) hl [1, 0] rfl
  refine lv_aload_nN C.1 C.2.1 dX8_ask_19 rfl (lv_at hl 1 rfl) ?_
  refine lv_ifnonnullN C.1 C.2.1 dX8_ask_20 ?_
  refine lv_iconst (v := 0) C.1 C.2.1 dX8_ask_23 (by decide) ?_
  refine lv_goto (tgt := 39) C.1 C.2.1 dX8_ask_24 (by decide) ?_
  cases h
  exact rt_i C hP hS dX8_ask_39
set_option maxHeartbeats 4000000 in
set_option maxRecDepth 100000 in
theorem wX8_ask_3 {p : Program} {l : Launch} {e : Env} {s : State} {m : MethodId} {args : Array Value} {below : List Frame} {meth : Method} {c : Code} {D : va_G} {cy : Nat → ClassId} {ad st : Nat → Nat} (C : Cx RX8 cX8_ask 3 (some .int) wsX8_ask p s m args meth c) (hK : Kx D [(cy 0, .int), (cy 1, .long), (cy 2, .boolean), (cy 3, .byte), (cy 4, .object "HissHorn$Text")] st s) (hJ : JX ad) (x1 : Int32) {u : SX} {r : Int32} {u' : SX} {H : Heap} {locs : List Loc} {ls : Array Slot} (h : fX8_ask_3 x1 u = some (r, u')) (hP : va_P D vwCl (VX cy ad st u) H) (hS : va_S (Ax (AX ad) s.heap.size) s.heap H locs) (hl : lv_has ls 3 [(0, .ref (ad 3)), (1, .int x1)]) : W p l e rmX8_ask_3 s m args below meth c H locs 0 0 (MQ below (Qi D (VX cy ad st) (AX ad) s.heap.size r u') args s 0 0 (Ax (AX ad) s.heap.size)) (F0 m 0 ls []) := by
  unfold fX8_ask_3 at h
  refine lv_aload_n C.1 C.2.1 dX8_ask_0 rfl (lv_at hl 0 rfl) ?_
  refine lv_iload_n C.1 C.2.1 dX8_ask_1 rfl (lv_at hl 1 rfl) ?_
  obtain ⟨⟨r1, u2⟩, hc3, h⟩ := bd_some h
  try dsimp only at h
  refine cg_i (As := [.int x1]) (rest := []) C hK hP hS (metX8_has_3 l D cy ad st hJ _ x1 hc3) (cwV 1 C.2.2.2.2.2.1 gX8_ask_X8_has rfl rfl rfl (by decide +kernel) ⟨(Nat.le_of_ble_eq_true rfl), (Nat.le_of_ble_eq_true rfl)⟩) 3 8 rfl rfl rfl hl.1 rfl (Nat.le_of_ble_eq_true rfl) dX8_ask_2 ⟨Nat.zero_le _, Nat.zero_le _⟩ (fun H locs hP hS => ?_)
  refine lv_if_eq (tgt := 17) C.1 C.2.1 dX8_ask_5 (by decide) (fun c5 => ?_) (fun c5 => ?_)
  · rw [if_pos c5] at h
    refine lv_null C.1 C.2.1 dX8_ask_17 ?_
    exact wGX8_ask_3_18 C hK hJ _ _ _ _ h hP hS (lv_sub hl [0] rfl)
  · rw [if_neg c5] at h
    refine lv_aload_n C.1 C.2.1 dX8_ask_8 rfl (lv_at hl 0 rfl) ?_
    refine gX_3_texts C hX8_ask_3_X8 hK hP mX8_ask_3_1 dX8_ask_9 ?_
    refine lv_iload_n C.1 C.2.1 dX8_ask_12 rfl (lv_at hl 1 rfl) ?_
    exact absurd h (by intro q; cases q)
theorem metX8_ask_3 (l : Launch) (D : va_G) (cy : Nat → ClassId) (ad st : Nat → Nat) (hJ : JX ad) (sz : Nat) (x1 : Int32) {u : SX} {r : Int32} {u' : SX} (h : fX8_ask_3 x1 u = some (r, u')) : Met l yX8_ask wsX8_ask rmX8_ask_3 (va_Pc [.ref (ad 3), .int x1] (Px D [(cy 0, .int), (cy 1, .long), (cy 2, .boolean), (cy 3, .byte), (cy 4, .object "HissHorn$Text")] st (VX cy ad st) sz u)) (Qi D (VX cy ad st) (AX ad) sz r u') 0 0 (Ax (AX ad) sz) := by
  refine Met.ofW (cc := cX8_ask) (maxL := 3) (ret := (some .int)) (by decide) rfl ?_
  intro p e s m args below meth c s₁ B hml hv
  obtain ⟨rfl, hsz, hP, hK⟩ := hv
  subst hsz
  have C : Cx RX8 cX8_ask 3 (some .int) wsX8_ask p s m _ meth c := ⟨B.exec, B.bytes, hml, B.returns, findClass_of_methodNamed B.named, atoms_spec (ws := wsX8_ask) B.pre, B.notSynchronized⟩
  have hl := lv_entry ([.ref (ad 3), .int x1]) (n := 3) (Nat.le_of_ble_eq_true rfl)
  rw [lg_entry_eq]
  exact wX8_ask_3 C hK hJ x1 h hP va_S.rf hl

theorem dX11_worth_0 : decode cX11_worth 0 = .ok (.aload_n 0, 1) := by decide +kernel
theorem dX11_worth_1 : decode cX11_worth 1 = .ok (.getfield 32, 3) := by decide +kernel
theorem dX11_worth_4 : decode cX11_worth 4 = .ok (.iload_n 1, 1) := by decide +kernel
set_option maxRecDepth 20000 in
theorem ggX11_worth_X8_has : GoodIn wsX11_worth wsX8_has := goodIn_r _ [8, 9, 67, 68, 69, 70, 71] (by decide +kernel) (by decide +kernel)
set_option maxRecDepth 20000 in
theorem gX11_worth_X8_has : GoodIn wsX11_worth (wsV RX11 146 RX8 yX8_has wsX8_has) := goodIn_app (goodIn_of _ (by decide +kernel)) ggX11_worth_X8_has
theorem dX11_worth_5 : decode cX11_worth 5 = .ok (.invokevirtual 146, 3) := by decide +kernel
theorem dX11_worth_8 : decode cX11_worth 8 = .ok (.ifCond .eq 27, 3) := by decide +kernel
theorem dX11_worth_11 : decode cX11_worth 11 = .ok (.iload_n 2, 1) := by decide +kernel
theorem dX11_worth_12 : decode cX11_worth 12 = .ok (.iload_n 3, 1) := by decide +kernel
theorem dX11_worth_13 : decode cX11_worth 13 = .ok (.iload 4, 2) := by decide +kernel
theorem dX11_worth_15 : decode cX11_worth 15 = .ok (.iload 6, 2) := by decide +kernel
theorem dX11_worth_17 : decode cX11_worth 17 = .ok (.iload 7, 2) := by decide +kernel
set_option maxRecDepth 20000 in
theorem ggX11_worth_X11_isAim : GoodIn wsX11_worth wsX11_isAim := goodIn_r _ [13, 14, 15, 12, 16] (by decide +kernel) (by decide +kernel)
set_option maxRecDepth 20000 in
theorem gX11_worth_X11_isAim : GoodIn wsX11_worth (va_wsS RX11 150 yX11_isAim wsX11_isAim) := goodIn_app (goodIn_of _ (by decide +kernel)) ggX11_worth_X11_isAim
theorem dX11_worth_19 : decode cX11_worth 19 = .ok (.invokestatic 150, 3) := by decide +kernel
theorem dX11_worth_22 : decode cX11_worth 22 = .ok (.ifCond .eq 13, 3) := by decide +kernel
theorem dX11_worth_25 : decode cX11_worth 25 = .ok (.iload 5, 2) := by decide +kernel
theorem dX11_worth_27 : decode cX11_worth 27 = .ok (.iconst 0, 1) := by decide +kernel
theorem dX11_worth_28 : decode cX11_worth 28 = .ok (.iconst 3, 1) := by decide +kernel
set_option maxRecDepth 20000 in
theorem ggX11_worth_X11_within : GoodIn wsX11_worth wsX11_within := goodIn_r _ [16] (by decide +kernel) (by decide +kernel)
set_option maxRecDepth 20000 in
theorem gX11_worth_X11_within : GoodIn wsX11_worth (va_wsS RX11 107 yX11_within wsX11_within) := goodIn_app (goodIn_of _ (by decide +kernel)) ggX11_worth_X11_within
theorem dX11_worth_29 : decode cX11_worth 29 = .ok (.invokestatic 107, 3) := by decide +kernel
theorem dX11_worth_32 : decode cX11_worth 32 = .ok (.ifCond .ne 11, 3) := by decide +kernel
theorem dX11_worth_43 : decode cX11_worth 43 = .ok (.aload_n 0, 1) := by decide +kernel
theorem dX11_worth_44 : decode cX11_worth 44 = .ok (.getfield 32, 3) := by decide +kernel
theorem dX11_worth_47 : decode cX11_worth 47 = .ok (.iload_n 2, 1) := by decide +kernel
theorem dX11_worth_48 : decode cX11_worth 48 = .ok (.iload_n 3, 1) := by decide +kernel
theorem dX11_worth_49 : decode cX11_worth 49 = .ok (.iload 4, 2) := by decide +kernel
theorem dX11_worth_51 : decode cX11_worth 51 = .ok (.iload 5, 2) := by decide +kernel
theorem dX11_worth_53 : decode cX11_worth 53 = .ok (.iload 6, 2) := by decide +kernel
theorem dX11_worth_55 : decode cX11_worth 55 = .ok (.iload 7, 2) := by decide +kernel
set_option maxRecDepth 20000 in
theorem ggX11_worth_X8_setAim : GoodIn wsX11_worth wsX8_setAim := goodIn_r _ [20, 21, 22, 23, 7, 24, 25, 67, 68, 69, 70, 71] (by decide +kernel) (by decide +kernel)
set_option maxRecDepth 20000 in
theorem gX11_worth_X8_setAim : GoodIn wsX11_worth (wsV RX11 157 RX8 yX8_setAim wsX8_setAim) := goodIn_app (goodIn_of _ (by decide +kernel)) ggX11_worth_X8_setAim
theorem dX11_worth_57 : decode cX11_worth 57 = .ok (.invokevirtual 157, 3) := by decide +kernel
theorem dX11_worth_60 : decode cX11_worth 60 = .ok (.aload_n 0, 1) := by decide +kernel
theorem dX11_worth_61 : decode cX11_worth 61 = .ok (.getfield 32, 3) := by decide +kernel
theorem dX11_worth_64 : decode cX11_worth 64 = .ok (.iload_n 1, 1) := by decide +kernel
set_option maxRecDepth 20000 in
theorem ggX11_worth_X8_ask : GoodIn wsX11_worth wsX8_ask := goodIn_r _ [29, 30, 25, 31, 32, 5, 6, 7, 8, 9, 33, 34, 35, 36, 37, 38, 39, 40, 41, 42, 43, 44, 45, 46, 47, 48, 49, 50, 51, 52, 53, 67, 68, 69, 70, 71, 72] (by decide +kernel) (by decide +kernel)
set_option maxRecDepth 20000 in
theorem gX11_worth_X8_ask : GoodIn wsX11_worth (wsV RX11 161 RX8 yX8_ask wsX8_ask) := goodIn_app (goodIn_of _ (by decide +kernel)) ggX11_worth_X8_ask
theorem dX11_worth_65 : decode cX11_worth 65 = .ok (.invokevirtual 161, 3) := by decide +kernel
theorem dX11_worth_68 : decode cX11_worth 68 = .ok (.ireturn, 1) := by decide +kernel
/-- HissHorn.worth(IIIIIII)I of cell 0 -/
def rmX11_worth_0 : Room := { frames := 2, cells := 0, slots := 0, locals := 48 }
theorem hX11_worth_0_X11 : ∀ w ∈ u_ws RX11 TX11 13, w ∈ wsX11_worth := fun w h => (List.mem_cons_of_mem _ (List.mem_append_left _ (List.mem_append_left _ (List.mem_append_left _ (List.mem_append_right _ h)))))
theorem mX11_worth_0_1 : Cond.fieldLink RX11 32 "HissHorn" "laws" "LHissHorn$Shelf;" ∈ wsX11_worth := (List.mem_cons_of_mem _ (List.mem_append_left _ (List.mem_append_left _ (List.mem_append_left _ (List.mem_append_left _ (List.mem_append_left _ (List.mem_of_getElem? (i := 2) rfl)))))))
def GX11_worth_0_35  (u : SX) : Option (Int32 × SX) := none
def fX11_worth_0 (x1 : Int32) (x2 : Int32) (x3 : Int32) (x4 : Int32) (x5 : Int32) (x6 : Int32) (x7 : Int32) (u : SX) : Option (Int32 × SX) := ((fX8_has_3 x1 u).bind fun q => match q with | (r1, u2) => (if r1 = 0 then (GX11_worth_0_35 u2) else ((fX11_isAim x2 x3 x4 x6 x7).bind fun r4 => (if r4 = 0 then (GX11_worth_0_35 u2) else ((fX11_within x5 0 3).bind fun r7 => (if r7 = 0 then (GX11_worth_0_35 u2) else ((fX8_setAim_3 x2 x3 x4 x5 x6 x7 u2).bind fun q => match q with | (r10, u11) => ((fX8_ask_3 x1 u11).bind fun q => match q with | (r13, u14) => (some (r13, u14))))))))))
set_option maxHeartbeats 4000000 in
set_option maxRecDepth 100000 in
theorem wGX11_worth_0_35 {p : Program} {l : Launch} {e : Env} {s : State} {m : MethodId} {args : Array Value} {below : List Frame} {meth : Method} {c : Code} {D : va_G} {cy : Nat → ClassId} {ad st : Nat → Nat} (C : Cx RX11 cX11_worth 8 (some .int) wsX11_worth p s m args meth c) (hK : Kx D [(cy 0, .int), (cy 1, .long), (cy 2, .boolean), (cy 3, .byte), (cy 4, .object "HissHorn$Text")] st s) (hJ : JX ad) {r : Int32} {u' : SX}   (u : SX) (H : Heap) (locs : List Loc) (ls : Array Slot) (h : GX11_worth_0_35  u = some (r, u')) (hP : va_P D vwCl (VX cy ad st u) H) (hS : va_S (Ax (AX ad) s.heap.size) s.heap H locs) (hl : lv_has ls 8 []) : W p l e rmX11_worth_0 s m args below meth c H locs 0 0 (MQ below (Qi D (VX cy ad st) (AX ad) s.heap.size r u') args s 0 0 (Ax (AX ad) s.heap.size)) (F0 m 35 ls []) := by
  unfold GX11_worth_0_35 at h
  exact absurd h (by intro q; cases q)
set_option maxHeartbeats 4000000 in
set_option maxRecDepth 100000 in
theorem wX11_worth_0 {p : Program} {l : Launch} {e : Env} {s : State} {m : MethodId} {args : Array Value} {below : List Frame} {meth : Method} {c : Code} {D : va_G} {cy : Nat → ClassId} {ad st : Nat → Nat} (C : Cx RX11 cX11_worth 8 (some .int) wsX11_worth p s m args meth c) (hK : Kx D [(cy 0, .int), (cy 1, .long), (cy 2, .boolean), (cy 3, .byte), (cy 4, .object "HissHorn$Text")] st s) (hJ : JX ad) (x1 : Int32) (x2 : Int32) (x3 : Int32) (x4 : Int32) (x5 : Int32) (x6 : Int32) (x7 : Int32) {u : SX} {r : Int32} {u' : SX} {H : Heap} {locs : List Loc} {ls : Array Slot} (h : fX11_worth_0 x1 x2 x3 x4 x5 x6 x7 u = some (r, u')) (hP : va_P D vwCl (VX cy ad st u) H) (hS : va_S (Ax (AX ad) s.heap.size) s.heap H locs) (hl : lv_has ls 8 [(0, .ref (ad 0)), (1, .int x1), (2, .int x2), (3, .int x3), (4, .int x4), (5, .int x5), (6, .int x6), (7, .int x7)]) : W p l e rmX11_worth_0 s m args below meth c H locs 0 0 (MQ below (Qi D (VX cy ad st) (AX ad) s.heap.size r u') args s 0 0 (Ax (AX ad) s.heap.size)) (F0 m 0 ls []) := by
  unfold fX11_worth_0 at h
  refine lv_aload_n C.1 C.2.1 dX11_worth_0 rfl (lv_at hl 0 rfl) ?_
  refine gX_0_laws C hX11_worth_0_X11 hK hP mX11_worth_0_1 dX11_worth_1 ?_
  refine lv_iload_n C.1 C.2.1 dX11_worth_4 rfl (lv_at hl 1 rfl) ?_
  obtain ⟨⟨r1, u2⟩, hc3, h⟩ := bd_some h
  try dsimp only at h
  refine cg_i (As := [.int x1]) (rest := []) C hK hP hS (metX8_has_3 l D cy ad st hJ _ x1 hc3) (cwV 1 C.2.2.2.2.2.1 gX11_worth_X8_has rfl rfl rfl (by decide +kernel) ⟨(Nat.le_of_ble_eq_true rfl), (Nat.le_of_ble_eq_true rfl)⟩) 3 8 rfl rfl rfl hl.1 rfl (Nat.le_of_ble_eq_true rfl) dX11_worth_5 ⟨Nat.zero_le _, Nat.zero_le _⟩ (fun H locs hP hS => ?_)
  refine lv_if_eq (tgt := 35) C.1 C.2.1 dX11_worth_8 (by decide) (fun c8 => ?_) (fun c8 => ?_)
  · rw [if_pos c8] at h
    exact wGX11_worth_0_35 C hK hJ _ _ _ _ h hP hS (lv_sub hl [] rfl)
  · rw [if_neg c8] at h
    refine lv_iload_n C.1 C.2.1 dX11_worth_11 rfl (lv_at hl 2 rfl) ?_
    refine lv_iload_n C.1 C.2.1 dX11_worth_12 rfl (lv_at hl 3 rfl) ?_
    refine lv_iload C.1 C.2.1 dX11_worth_13 (lv_at hl 4 rfl) ?_
    refine lv_iload C.1 C.2.1 dX11_worth_15 (lv_at hl 6 rfl) ?_
    refine lv_iload C.1 C.2.1 dX11_worth_17 (lv_at hl 7 rfl) ?_
    obtain ⟨r4, hc6, h⟩ := bd_some h
    refine cs_i (As := [.int x2, .int x3, .int x4, .int x6, .int x7]) (rest := []) C hK hP hS (metX11_isAim l D cy st _ x2 x3 x4 x6 x7 hc6) (va_cwS 5 C.2.2.2.2.2.1 gX11_worth_X11_isAim rfl rfl rfl (by decide +kernel) ⟨(Nat.le_of_ble_eq_true rfl), (Nat.le_of_ble_eq_true rfl)⟩) rfl hl.1 rfl (Nat.le_of_ble_eq_true rfl) dX11_worth_19 ⟨Nat.zero_le _, Nat.zero_le _⟩ (fun H locs hP hS => ?_)
    refine lv_if_eq (tgt := 35) C.1 C.2.1 dX11_worth_22 (by decide) (fun c22 => ?_) (fun c22 => ?_)
    · rw [if_pos c22] at h
      exact wGX11_worth_0_35 C hK hJ _ _ _ _ h hP hS (lv_sub hl [] rfl)
    · rw [if_neg c22] at h
      refine lv_iload C.1 C.2.1 dX11_worth_25 (lv_at hl 5 rfl) ?_
      refine lv_iconst (v := 0) C.1 C.2.1 dX11_worth_27 (by decide) ?_
      refine lv_iconst (v := 3) C.1 C.2.1 dX11_worth_28 (by decide) ?_
      obtain ⟨r7, hc9, h⟩ := bd_some h
      refine cs_i (As := [.int x5, .int 0, .int 3]) (rest := []) C hK hP hS (metX11_within l D cy st _ x5 0 3 hc9) (va_cwS 3 C.2.2.2.2.2.1 gX11_worth_X11_within rfl rfl rfl (by decide +kernel) ⟨(Nat.le_of_ble_eq_true rfl), (Nat.le_of_ble_eq_true rfl)⟩) rfl hl.1 rfl (Nat.le_of_ble_eq_true rfl) dX11_worth_29 ⟨Nat.zero_le _, Nat.zero_le _⟩ (fun H locs hP hS => ?_)
      refine lv_if_ne (tgt := 43) C.1 C.2.1 dX11_worth_32 (by decide) (fun c32 => ?_) (fun c32 => ?_)
      · rw [if_neg c32] at h
        refine lv_aload_n C.1 C.2.1 dX11_worth_43 rfl (lv_at hl 0 rfl) ?_
        refine gX_0_laws C hX11_worth_0_X11 hK hP mX11_worth_0_1 dX11_worth_44 ?_
        refine lv_iload_n C.1 C.2.1 dX11_worth_47 rfl (lv_at hl 2 rfl) ?_
        refine lv_iload_n C.1 C.2.1 dX11_worth_48 rfl (lv_at hl 3 rfl) ?_
        refine lv_iload C.1 C.2.1 dX11_worth_49 (lv_at hl 4 rfl) ?_
        refine lv_iload C.1 C.2.1 dX11_worth_51 (lv_at hl 5 rfl) ?_
        refine lv_iload C.1 C.2.1 dX11_worth_53 (lv_at hl 6 rfl) ?_
        refine lv_iload C.1 C.2.1 dX11_worth_55 (lv_at hl 7 rfl) ?_
        obtain ⟨⟨r10, u11⟩, hc12, h⟩ := bd_some h
        try dsimp only at h
        refine cg_v (As := [.int x2, .int x3, .int x4, .int x5, .int x6, .int x7]) (rest := []) C hK hP hS (metX8_setAim_3 l D cy ad st hJ _ x2 x3 x4 x5 x6 x7 hc12) (cwV 6 C.2.2.2.2.2.1 gX11_worth_X8_setAim rfl rfl rfl (by decide +kernel) ⟨(Nat.le_of_ble_eq_true rfl), (Nat.le_of_ble_eq_true rfl)⟩) 3 8 rfl rfl rfl hl.1 rfl (Nat.le_of_ble_eq_true rfl) dX11_worth_57 ⟨Nat.zero_le _, Nat.zero_le _⟩ (fun H locs hP hS => ?_)
        refine lv_aload_n C.1 C.2.1 dX11_worth_60 rfl (lv_at hl 0 rfl) ?_
        refine gX_0_laws C hX11_worth_0_X11 hK hP mX11_worth_0_1 dX11_worth_61 ?_
        refine lv_iload_n C.1 C.2.1 dX11_worth_64 rfl (lv_at hl 1 rfl) ?_
        obtain ⟨⟨r13, u14⟩, hc15, h⟩ := bd_some h
        try dsimp only at h
        refine cg_i (As := [.int x1]) (rest := []) C hK hP hS (metX8_ask_3 l D cy ad st hJ _ x1 hc15) (cwV 1 C.2.2.2.2.2.1 gX11_worth_X8_ask rfl rfl rfl (by decide +kernel) ⟨(Nat.le_of_ble_eq_true rfl), (Nat.le_of_ble_eq_true rfl)⟩) 3 8 rfl rfl rfl hl.1 rfl (Nat.le_of_ble_eq_true rfl) dX11_worth_65 ⟨Nat.zero_le _, Nat.zero_le _⟩ (fun H locs hP hS => ?_)
        cases h
        exact rt_i C hP hS dX11_worth_68
      · rw [if_pos c32] at h
        exact wGX11_worth_0_35 C hK hJ _ _ _ _ h hP hS (lv_sub hl [] rfl)
theorem metX11_worth_0 (l : Launch) (D : va_G) (cy : Nat → ClassId) (ad st : Nat → Nat) (hJ : JX ad) (sz : Nat) (x1 : Int32) (x2 : Int32) (x3 : Int32) (x4 : Int32) (x5 : Int32) (x6 : Int32) (x7 : Int32) {u : SX} {r : Int32} {u' : SX} (h : fX11_worth_0 x1 x2 x3 x4 x5 x6 x7 u = some (r, u')) : Met l yX11_worth wsX11_worth rmX11_worth_0 (va_Pc [.ref (ad 0), .int x1, .int x2, .int x3, .int x4, .int x5, .int x6, .int x7] (Px D [(cy 0, .int), (cy 1, .long), (cy 2, .boolean), (cy 3, .byte), (cy 4, .object "HissHorn$Text")] st (VX cy ad st) sz u)) (Qi D (VX cy ad st) (AX ad) sz r u') 0 0 (Ax (AX ad) sz) := by
  refine Met.ofW (cc := cX11_worth) (maxL := 8) (ret := (some .int)) (by decide) rfl ?_
  intro p e s m args below meth c s₁ B hml hv
  obtain ⟨rfl, hsz, hP, hK⟩ := hv
  subst hsz
  have C : Cx RX11 cX11_worth 8 (some .int) wsX11_worth p s m _ meth c := ⟨B.exec, B.bytes, hml, B.returns, findClass_of_methodNamed B.named, atoms_spec (ws := wsX11_worth) B.pre, B.notSynchronized⟩
  have hl := lv_entry ([.ref (ad 0), .int x1, .int x2, .int x3, .int x4, .int x5, .int x6, .int x7]) (n := 8) (Nat.le_of_ble_eq_true rfl)
  rw [lg_entry_eq]
  exact wX11_worth_0 C hK hJ x1 x2 x3 x4 x5 x6 x7 h hP va_S.rf hl

theorem dX11_isLoudness_0 : decode cX11_isLoudness 0 = .ok (.iload_n 0, 1) := by decide +kernel
theorem dX11_isLoudness_1 : decode cX11_isLoudness 1 = .ok (.ifCond .lt 19, 3) := by decide +kernel
theorem dX11_isLoudness_20 : decode cX11_isLoudness 20 = .ok (.iconst 0, 1) := by decide +kernel
theorem dX11_isLoudness_21 : decode cX11_isLoudness 21 = .ok (.ireturn, 1) := by decide +kernel
theorem dX11_isLoudness_4 : decode cX11_isLoudness 4 = .ok (.iload_n 1, 1) := by decide +kernel
theorem dX11_isLoudness_5 : decode cX11_isLoudness 5 = .ok (.sipush 400, 3) := by decide +kernel
theorem dX11_isLoudness_8 : decode cX11_isLoudness 8 = .ok (.if_icmp .gt 12, 3) := by decide +kernel
theorem dX11_isLoudness_11 : decode cX11_isLoudness 11 = .ok (.iload_n 0, 1) := by decide +kernel
theorem dX11_isLoudness_12 : decode cX11_isLoudness 12 = .ok (.iload_n 1, 1) := by decide +kernel
theorem dX11_isLoudness_13 : decode cX11_isLoudness 13 = .ok (.if_icmp .gt 7, 3) := by decide +kernel
theorem dX11_isLoudness_16 : decode cX11_isLoudness 16 = .ok (.iconst 1, 1) := by decide +kernel
theorem dX11_isLoudness_17 : decode cX11_isLoudness 17 = .ok (.goto 4, 3) := by decide +kernel
/-- HissHorn.isLoudness(II)Z -/
def rmX11_isLoudness : Room := { frames := 0, cells := 0, slots := 0, locals := 0 }
def fX11_isLoudness (x0 : Int32) (x1 : Int32) : Option Int32 := (if x0 < 0 then (gd (isB 0) (some 0)) else (if 400 < x1 then (gd (isB 0) (some 0)) else (if x1 < x0 then (gd (isB 0) (some 0)) else (gd (isB 1) (some 1)))))
set_option maxHeartbeats 4000000 in
set_option maxRecDepth 100000 in
theorem wX11_isLoudness {p : Program} {l : Launch} {e : Env} {s : State} {m : MethodId} {args : Array Value} {below : List Frame} {meth : Method} {c : Code} {D : va_G} {cy : Nat → ClassId} {st : Nat → Nat} (C : Cx RX11 cX11_isLoudness 2 (some .boolean) wsX11_isLoudness p s m args meth c) (hK : Kx D [(cy 0, .int), (cy 1, .long), (cy 2, .boolean), (cy 3, .byte), (cy 4, .object "HissHorn$Text")] st s) (x0 : Int32) (x1 : Int32) {r : Int32} {H : Heap} {locs : List Loc} {ls : Array Slot} (h : fX11_isLoudness x0 x1 = some r) (hP : va_P D vwCl (V0 u00) H) (hS : va_S (Ax (A0) s.heap.size) s.heap H locs) (hl : lv_has ls 2 [(0, .int x0), (1, .int x1)]) : W p l e rmX11_isLoudness s m args below meth c H locs 0 0 (MQ below (Qi D (V0) (A0) s.heap.size r u00) args s 0 0 (Ax (A0) s.heap.size)) (F0 m 0 ls []) := by
  unfold fX11_isLoudness at h
  refine lv_iload_n C.1 C.2.1 dX11_isLoudness_0 rfl (lv_at hl 0 rfl) ?_
  refine lv_if_lt (tgt := 20) C.1 C.2.1 dX11_isLoudness_1 (by decide) (fun c1 => ?_) (fun c1 => ?_)
  · rw [if_pos c1] at h
    refine lv_iconst (v := 0) C.1 C.2.1 dX11_isLoudness_20 (by decide) ?_
    obtain ⟨hg1, h⟩ := gd_some h
    cases h
    exact rt_z hg1 C hP hS dX11_isLoudness_21
  · rw [if_neg c1] at h
    refine lv_iload_n C.1 C.2.1 dX11_isLoudness_4 rfl (lv_at hl 1 rfl) ?_
    refine lv_sipush (v := 400) C.1 C.2.1 dX11_isLoudness_5 (by decide) ?_
    refine lv_icmp_gt (tgt := 20) C.1 C.2.1 dX11_isLoudness_8 (by decide) (fun c8 => ?_) (fun c8 => ?_)
    · rw [if_pos c8] at h
      refine lv_iconst (v := 0) C.1 C.2.1 dX11_isLoudness_20 (by decide) ?_
      obtain ⟨hg2, h⟩ := gd_some h
      cases h
      exact rt_z hg2 C hP hS dX11_isLoudness_21
    · rw [if_neg c8] at h
      refine lv_iload_n C.1 C.2.1 dX11_isLoudness_11 rfl (lv_at hl 0 rfl) ?_
      refine lv_iload_n C.1 C.2.1 dX11_isLoudness_12 rfl (lv_at hl 1 rfl) ?_
      refine lv_icmp_gt (tgt := 20) C.1 C.2.1 dX11_isLoudness_13 (by decide) (fun c13 => ?_) (fun c13 => ?_)
      · rw [if_pos c13] at h
        refine lv_iconst (v := 0) C.1 C.2.1 dX11_isLoudness_20 (by decide) ?_
        obtain ⟨hg3, h⟩ := gd_some h
        cases h
        exact rt_z hg3 C hP hS dX11_isLoudness_21
      · rw [if_neg c13] at h
        refine lv_iconst (v := 1) C.1 C.2.1 dX11_isLoudness_16 (by decide) ?_
        refine lv_goto (tgt := 21) C.1 C.2.1 dX11_isLoudness_17 (by decide) ?_
        obtain ⟨hg4, h⟩ := gd_some h
        cases h
        exact rt_z hg4 C hP hS dX11_isLoudness_21
theorem metX11_isLoudness (l : Launch) (D : va_G) (cy : Nat → ClassId) (st : Nat → Nat) (sz : Nat) (x0 : Int32) (x1 : Int32) {r : Int32} (h : fX11_isLoudness x0 x1 = some r) : Met l yX11_isLoudness wsX11_isLoudness rmX11_isLoudness (va_Pc [.int x0, .int x1] (Px D [(cy 0, .int), (cy 1, .long), (cy 2, .boolean), (cy 3, .byte), (cy 4, .object "HissHorn$Text")] st V0 sz u00)) (Qi D V0 A0 sz r u00) 0 0 (Ax A0 sz) := by
  refine Met.ofW (cc := cX11_isLoudness) (maxL := 2) (ret := (some .boolean)) (by decide) rfl ?_
  intro p e s m args below meth c s₁ B hml hv
  obtain ⟨rfl, hsz, hP, hK⟩ := hv
  subst hsz
  have C : Cx RX11 cX11_isLoudness 2 (some .boolean) wsX11_isLoudness p s m _ meth c := ⟨B.exec, B.bytes, hml, B.returns, findClass_of_methodNamed B.named, atoms_spec (ws := wsX11_isLoudness) B.pre, B.notSynchronized⟩
  have hl := lv_entry ([.int x0, .int x1]) (n := 2) (Nat.le_of_ble_eq_true rfl)
  rw [lg_entry_eq]
  exact wX11_isLoudness C hK x0 x1 h hP va_S.rf hl

theorem dX6_add_0 : decode cX6_add 0 = .ok (.aload_n 0, 1) := by decide +kernel
theorem dX6_add_1 : decode cX6_add 1 = .ok (.getfield 49, 3) := by decide +kernel
theorem dX6_add_4 : decode cX6_add 4 = .ok (.bipush 12, 2) := by decide +kernel
theorem dX6_add_6 : decode cX6_add 6 = .ok (.if_icmp .lt 5, 3) := by decide +kernel
theorem dX6_add_11 : decode cX6_add 11 = .ok (.aload_n 0, 1) := by decide +kernel
theorem dX6_add_12 : decode cX6_add 12 = .ok (.getfield 9, 3) := by decide +kernel
theorem dX6_add_15 : decode cX6_add 15 = .ok (.aload_n 0, 1) := by decide +kernel
theorem dX6_add_16 : decode cX6_add 16 = .ok (.getfield 49, 3) := by decide +kernel
theorem dX6_add_19 : decode cX6_add 19 = .ok (.iload_n 1, 1) := by decide +kernel
theorem dX6_add_20 : decode cX6_add 20 = .ok (.iastore, 1) := by decide +kernel
theorem dX6_add_21 : decode cX6_add 21 = .ok (.aload_n 0, 1) := by decide +kernel
theorem dX6_add_22 : decode cX6_add 22 = .ok (.getfield 18, 3) := by decide +kernel
theorem dX6_add_25 : decode cX6_add 25 = .ok (.aload_n 0, 1) := by decide +kernel
theorem dX6_add_26 : decode cX6_add 26 = .ok (.getfield 49, 3) := by decide +kernel
theorem dX6_add_29 : decode cX6_add 29 = .ok (.iload 4, 2) := by decide +kernel
theorem dX6_add_31 : decode cX6_add 31 = .ok (.iastore, 1) := by decide +kernel
theorem dX6_add_32 : decode cX6_add 32 = .ok (.aload_n 0, 1) := by decide +kernel
theorem dX6_add_33 : decode cX6_add 33 = .ok (.getfield 27, 3) := by decide +kernel
theorem dX6_add_36 : decode cX6_add 36 = .ok (.aload_n 0, 1) := by decide +kernel
theorem dX6_add_37 : decode cX6_add 37 = .ok (.getfield 49, 3) := by decide +kernel
theorem dX6_add_40 : decode cX6_add 40 = .ok (.iload_n 2, 1) := by decide +kernel
theorem dX6_add_41 : decode cX6_add 41 = .ok (.iastore, 1) := by decide +kernel
theorem dX6_add_42 : decode cX6_add 42 = .ok (.aload_n 0, 1) := by decide +kernel
theorem dX6_add_43 : decode cX6_add 43 = .ok (.getfield 30, 3) := by decide +kernel
theorem dX6_add_46 : decode cX6_add 46 = .ok (.aload_n 0, 1) := by decide +kernel
theorem dX6_add_47 : decode cX6_add 47 = .ok (.getfield 49, 3) := by decide +kernel
theorem dX6_add_50 : decode cX6_add 50 = .ok (.iload_n 3, 1) := by decide +kernel
theorem dX6_add_51 : decode cX6_add 51 = .ok (.iastore, 1) := by decide +kernel
theorem dX6_add_52 : decode cX6_add 52 = .ok (.aload_n 0, 1) := by decide +kernel
theorem dX6_add_53 : decode cX6_add 53 = .ok (.getfield 15, 3) := by decide +kernel
theorem dX6_add_56 : decode cX6_add 56 = .ok (.aload_n 0, 1) := by decide +kernel
theorem dX6_add_57 : decode cX6_add 57 = .ok (.getfield 49, 3) := by decide +kernel
theorem dX6_add_60 : decode cX6_add 60 = .ok (.iload 5, 2) := by decide +kernel
theorem dX6_add_62 : decode cX6_add 62 = .ok (.iastore, 1) := by decide +kernel
theorem dX6_add_63 : decode cX6_add 63 = .ok (.aload_n 0, 1) := by decide +kernel
theorem dX6_add_64 : decode cX6_add 64 = .ok (.dup, 1) := by decide +kernel
theorem dX6_add_65 : decode cX6_add 65 = .ok (.getfield 49, 3) := by decide +kernel
theorem dX6_add_68 : decode cX6_add 68 = .ok (.iconst 1, 1) := by decide +kernel
theorem dX6_add_69 : decode cX6_add 69 = .ok (.iadd, 1) := by decide +kernel
theorem dX6_add_70 : decode cX6_add 70 = .ok (.putfield 49, 3) := by decide +kernel
theorem dX6_add_73 : decode cX6_add 73 = .ok (.aload_n 0, 1) := by decide +kernel
theorem dX6_add_74 : decode cX6_add 74 = .ok (.getfield 49, 3) := by decide +kernel
theorem dX6_add_77 : decode cX6_add 77 = .ok (.iconst 1, 1) := by decide +kernel
theorem dX6_add_78 : decode cX6_add 78 = .ok (.isub, 1) := by decide +kernel
theorem dX6_add_79 : decode cX6_add 79 = .ok (.ireturn, 1) := by decide +kernel
theorem dX6_add_9 : decode cX6_add 9 = .ok (.iconst (-1), 1) := by decide +kernel
theorem dX6_add_10 : decode cX6_add 10 = .ok (.ireturn, 1) := by decide +kernel
/-- HissHorn$Parts.add(IIIII)I of cell 6 -/
def rmX6_add_6 : Room := { frames := 0, cells := 0, slots := 0, locals := 0 }
theorem hX6_add_6_X6 : ∀ w ∈ u_ws RX6 TX6 17, w ∈ wsX6_add := fun w h => (List.mem_cons_of_mem _ (List.mem_append_right _ h))
theorem mX6_add_6_1 : Cond.fieldLink RX6 49 "HissHorn$Parts" "size" "I" ∈ wsX6_add := (List.mem_cons_of_mem _ (List.mem_append_left _ (List.mem_of_getElem? (i := 0) rfl)))
theorem mX6_add_6_2 : Cond.fieldLink RX6 9 "HissHorn$Parts" "law" "[I" ∈ wsX6_add := (List.mem_cons_of_mem _ (List.mem_append_left _ (List.mem_of_getElem? (i := 1) rfl)))
theorem mX6_add_6_3 : Cond.fieldLink RX6 18 "HissHorn$Parts" "truly" "[I" ∈ wsX6_add := (List.mem_cons_of_mem _ (List.mem_append_left _ (List.mem_of_getElem? (i := 2) rfl)))
theorem mX6_add_6_4 : Cond.fieldLink RX6 27 "HissHorn$Parts" "toldFrom" "[I" ∈ wsX6_add := (List.mem_cons_of_mem _ (List.mem_append_left _ (List.mem_of_getElem? (i := 3) rfl)))
theorem mX6_add_6_5 : Cond.fieldLink RX6 30 "HissHorn$Parts" "toldTo" "[I" ∈ wsX6_add := (List.mem_cons_of_mem _ (List.mem_append_left _ (List.mem_of_getElem? (i := 4) rfl)))
theorem mX6_add_6_6 : Cond.fieldLink RX6 15 "HissHorn$Parts" "day" "[I" ∈ wsX6_add := (List.mem_cons_of_mem _ (List.mem_append_left _ (List.mem_of_getElem? (i := 5) rfl)))
def fX6_add_6 (x1 : Int32) (x2 : Int32) (x3 : Int32) (x4 : Int32) (x5 : Int32) (u : SX) : Option (Int32 × SX) := (if (u.1 8) < 12 then (gd (inb (u.1 8) 12) (lt (sA u 24 (upd (u.2.1 24) (u.1 8).toNatClampNeg x1)) fun u2 => (gd (inb (u2.1 8) 12) (lt (sA u2 26 (upd (u2.2.1 26) (u2.1 8).toNatClampNeg x4)) fun u5 => (gd (inb (u5.1 8) 12) (lt (sA u5 29 (upd (u5.2.1 29) (u5.1 8).toNatClampNeg x2)) fun u8 => (gd (inb (u8.1 8) 12) (lt (sA u8 30 (upd (u8.2.1 30) (u8.1 8).toNatClampNeg x3)) fun u11 => (gd (inb (u11.1 8) 12) (lt (sA u11 25 (upd (u11.2.1 25) (u11.1 8).toNatClampNeg x5)) fun u14 => (lt (sI u14 8 ((u14.1 8) + 1)) fun u16 => (some ((u16.1 8) - 1, u16))))))))))))) else (some ((-1), u)))
set_option maxHeartbeats 4000000 in
set_option maxRecDepth 100000 in
theorem wX6_add_6 {p : Program} {l : Launch} {e : Env} {s : State} {m : MethodId} {args : Array Value} {below : List Frame} {meth : Method} {c : Code} {D : va_G} {cy : Nat → ClassId} {ad st : Nat → Nat} (C : Cx RX6 cX6_add 6 (some .int) wsX6_add p s m args meth c) (hK : Kx D [(cy 0, .int), (cy 1, .long), (cy 2, .boolean), (cy 3, .byte), (cy 4, .object "HissHorn$Text")] st s) (hJ : JX ad) (x1 : Int32) (x2 : Int32) (x3 : Int32) (x4 : Int32) (x5 : Int32) {u : SX} {r : Int32} {u' : SX} {H : Heap} {locs : List Loc} {ls : Array Slot} (h : fX6_add_6 x1 x2 x3 x4 x5 u = some (r, u')) (hP : va_P D vwCl (VX cy ad st u) H) (hS : va_S (Ax (AX ad) s.heap.size) s.heap H locs) (hl : lv_has ls 6 [(0, .ref (ad 6)), (1, .int x1), (2, .int x2), (3, .int x3), (4, .int x4), (5, .int x5)]) : W p l e rmX6_add_6 s m args below meth c H locs 0 0 (MQ below (Qi D (VX cy ad st) (AX ad) s.heap.size r u') args s 0 0 (Ax (AX ad) s.heap.size)) (F0 m 0 ls []) := by
  unfold fX6_add_6 at h
  refine lv_aload_n C.1 C.2.1 dX6_add_0 rfl (lv_at hl 0 rfl) ?_
  refine gX_6_size C hX6_add_6_X6 hK hP mX6_add_6_1 dX6_add_1 ?_
  refine lv_bipush (v := 12) C.1 C.2.1 dX6_add_4 (by decide) ?_
  refine lv_icmp_lt (tgt := 11) C.1 C.2.1 dX6_add_6 (by decide) (fun c6 => ?_) (fun c6 => ?_)
  · rw [if_pos c6] at h
    refine lv_aload_n C.1 C.2.1 dX6_add_11 rfl (lv_at hl 0 rfl) ?_
    refine gX_6_law C hX6_add_6_X6 hK hP mX6_add_6_2 dX6_add_12 ?_
    refine lv_aload_n C.1 C.2.1 dX6_add_15 rfl (lv_at hl 0 rfl) ?_
    refine gX_6_size C hX6_add_6_X6 hK hP mX6_add_6_1 dX6_add_16 ?_
    refine lv_iload_n C.1 C.2.1 dX6_add_19 rfl (lv_at hl 1 rfl) ?_
    obtain ⟨hg1, h⟩ := gd_some h
    refine tX_24 C hK hP hJ hS hg1 dX6_add_20 (fun H locs hP hS => ?_)
    obtain ⟨u2, hu3, h⟩ := lt_some h
    rw [← hu3] at hP
    refine lv_aload_n C.1 C.2.1 dX6_add_21 rfl (lv_at hl 0 rfl) ?_
    refine gX_6_truly C hX6_add_6_X6 hK hP mX6_add_6_3 dX6_add_22 ?_
    refine lv_aload_n C.1 C.2.1 dX6_add_25 rfl (lv_at hl 0 rfl) ?_
    refine gX_6_size C hX6_add_6_X6 hK hP mX6_add_6_1 dX6_add_26 ?_
    refine lv_iload C.1 C.2.1 dX6_add_29 (lv_at hl 4 rfl) ?_
    obtain ⟨hg4, h⟩ := gd_some h
    refine tX_26 C hK hP hJ hS hg4 dX6_add_31 (fun H locs hP hS => ?_)
    obtain ⟨u5, hu6, h⟩ := lt_some h
    rw [← hu6] at hP
    refine lv_aload_n C.1 C.2.1 dX6_add_32 rfl (lv_at hl 0 rfl) ?_
    refine gX_6_toldFrom C hX6_add_6_X6 hK hP mX6_add_6_4 dX6_add_33 ?_
    refine lv_aload_n C.1 C.2.1 dX6_add_36 rfl (lv_at hl 0 rfl) ?_
    refine gX_6_size C hX6_add_6_X6 hK hP mX6_add_6_1 dX6_add_37 ?_
    refine lv_iload_n C.1 C.2.1 dX6_add_40 rfl (lv_at hl 2 rfl) ?_
    obtain ⟨hg7, h⟩ := gd_some h
    refine tX_29 C hK hP hJ hS hg7 dX6_add_41 (fun H locs hP hS => ?_)
    obtain ⟨u8, hu9, h⟩ := lt_some h
    rw [← hu9] at hP
    refine lv_aload_n C.1 C.2.1 dX6_add_42 rfl (lv_at hl 0 rfl) ?_
    refine gX_6_toldTo C hX6_add_6_X6 hK hP mX6_add_6_5 dX6_add_43 ?_
    refine lv_aload_n C.1 C.2.1 dX6_add_46 rfl (lv_at hl 0 rfl) ?_
    refine gX_6_size C hX6_add_6_X6 hK hP mX6_add_6_1 dX6_add_47 ?_
    refine lv_iload_n C.1 C.2.1 dX6_add_50 rfl (lv_at hl 3 rfl) ?_
    obtain ⟨hg10, h⟩ := gd_some h
    refine tX_30 C hK hP hJ hS hg10 dX6_add_51 (fun H locs hP hS => ?_)
    obtain ⟨u11, hu12, h⟩ := lt_some h
    rw [← hu12] at hP
    refine lv_aload_n C.1 C.2.1 dX6_add_52 rfl (lv_at hl 0 rfl) ?_
    refine gX_6_day C hX6_add_6_X6 hK hP mX6_add_6_6 dX6_add_53 ?_
    refine lv_aload_n C.1 C.2.1 dX6_add_56 rfl (lv_at hl 0 rfl) ?_
    refine gX_6_size C hX6_add_6_X6 hK hP mX6_add_6_1 dX6_add_57 ?_
    refine lv_iload C.1 C.2.1 dX6_add_60 (lv_at hl 5 rfl) ?_
    obtain ⟨hg13, h⟩ := gd_some h
    refine tX_25 C hK hP hJ hS hg13 dX6_add_62 (fun H locs hP hS => ?_)
    obtain ⟨u14, hu15, h⟩ := lt_some h
    rw [← hu15] at hP
    refine lv_aload_n C.1 C.2.1 dX6_add_63 rfl (lv_at hl 0 rfl) ?_
    refine lv_dup C.1 C.2.1 dX6_add_64 rfl ?_
    refine gX_6_size C hX6_add_6_X6 hK hP mX6_add_6_1 dX6_add_65 ?_
    refine lv_iconst (v := 1) C.1 C.2.1 dX6_add_68 (by decide) ?_
    refine lv_iadd C.1 C.2.1 dX6_add_69 ?_
    refine pX_6_size C hX6_add_6_X6 hK hP hJ hS mX6_add_6_1 dX6_add_70 (fun H locs hP hS => ?_)
    obtain ⟨u16, hu17, h⟩ := lt_some h
    rw [← hu17] at hP
    refine lv_aload_n C.1 C.2.1 dX6_add_73 rfl (lv_at hl 0 rfl) ?_
    refine gX_6_size C hX6_add_6_X6 hK hP mX6_add_6_1 dX6_add_74 ?_
    refine lv_iconst (v := 1) C.1 C.2.1 dX6_add_77 (by decide) ?_
    refine lv_isub C.1 C.2.1 dX6_add_78 ?_
    cases h
    exact rt_i C hP hS dX6_add_79
  · rw [if_neg c6] at h
    refine lv_iconst (v := (-1)) C.1 C.2.1 dX6_add_9 (by decide) ?_
    cases h
    exact rt_i C hP hS dX6_add_10
theorem metX6_add_6 (l : Launch) (D : va_G) (cy : Nat → ClassId) (ad st : Nat → Nat) (hJ : JX ad) (sz : Nat) (x1 : Int32) (x2 : Int32) (x3 : Int32) (x4 : Int32) (x5 : Int32) {u : SX} {r : Int32} {u' : SX} (h : fX6_add_6 x1 x2 x3 x4 x5 u = some (r, u')) : Met l yX6_add wsX6_add rmX6_add_6 (va_Pc [.ref (ad 6), .int x1, .int x2, .int x3, .int x4, .int x5] (Px D [(cy 0, .int), (cy 1, .long), (cy 2, .boolean), (cy 3, .byte), (cy 4, .object "HissHorn$Text")] st (VX cy ad st) sz u)) (Qi D (VX cy ad st) (AX ad) sz r u') 0 0 (Ax (AX ad) sz) := by
  refine Met.ofW (cc := cX6_add) (maxL := 6) (ret := (some .int)) (by decide) rfl ?_
  intro p e s m args below meth c s₁ B hml hv
  obtain ⟨rfl, hsz, hP, hK⟩ := hv
  subst hsz
  have C : Cx RX6 cX6_add 6 (some .int) wsX6_add p s m _ meth c := ⟨B.exec, B.bytes, hml, B.returns, findClass_of_methodNamed B.named, atoms_spec (ws := wsX6_add) B.pre, B.notSynchronized⟩
  have hl := lv_entry ([.ref (ad 6), .int x1, .int x2, .int x3, .int x4, .int x5]) (n := 6) (Nat.le_of_ble_eq_true rfl)
  rw [lg_entry_eq]
  exact wX6_add_6 C hK hJ x1 x2 x3 x4 x5 h hP va_S.rf hl

theorem dX11_part_0 : decode cX11_part 0 = .ok (.aload_n 0, 1) := by decide +kernel
theorem dX11_part_1 : decode cX11_part 1 = .ok (.getfield 32, 3) := by decide +kernel
theorem dX11_part_4 : decode cX11_part 4 = .ok (.iload_n 1, 1) := by decide +kernel
set_option maxRecDepth 20000 in
theorem ggX11_part_X8_has : GoodIn wsX11_part wsX8_has := goodIn_r _ [9, 10, 59, 60, 61, 62, 63] (by decide +kernel) (by decide +kernel)
set_option maxRecDepth 20000 in
theorem gX11_part_X8_has : GoodIn wsX11_part (wsV RX11 146 RX8 yX8_has wsX8_has) := goodIn_app (goodIn_of _ (by decide +kernel)) ggX11_part_X8_has
theorem dX11_part_5 : decode cX11_part 5 = .ok (.invokevirtual 146, 3) := by decide +kernel
theorem dX11_part_8 : decode cX11_part 8 = .ok (.ifCond .eq 35, 3) := by decide +kernel
theorem dX11_part_43 : decode cX11_part 43 = .ok (.iconst (-1), 1) := by decide +kernel
theorem dX11_part_44 : decode cX11_part 44 = .ok (.ireturn, 1) := by decide +kernel
theorem dX11_part_11 : decode cX11_part 11 = .ok (.iload_n 2, 1) := by decide +kernel
theorem dX11_part_12 : decode cX11_part 12 = .ok (.iload_n 3, 1) := by decide +kernel
set_option maxRecDepth 20000 in
theorem ggX11_part_X11_isLoudness : GoodIn wsX11_part wsX11_isLoudness := goodIn_r _ [14] (by decide +kernel) (by decide +kernel)
set_option maxRecDepth 20000 in
theorem gX11_part_X11_isLoudness : GoodIn wsX11_part (va_wsS RX11 164 yX11_isLoudness wsX11_isLoudness) := goodIn_app (goodIn_of _ (by decide +kernel)) ggX11_part_X11_isLoudness
theorem dX11_part_13 : decode cX11_part 13 = .ok (.invokestatic 164, 3) := by decide +kernel
theorem dX11_part_16 : decode cX11_part 16 = .ok (.ifCond .eq 27, 3) := by decide +kernel
theorem dX11_part_19 : decode cX11_part 19 = .ok (.iload 4, 2) := by decide +kernel
theorem dX11_part_21 : decode cX11_part 21 = .ok (.iconst 0, 1) := by decide +kernel
theorem dX11_part_22 : decode cX11_part 22 = .ok (.sipush 400, 3) := by decide +kernel
set_option maxRecDepth 20000 in
theorem ggX11_part_X11_within : GoodIn wsX11_part wsX11_within := goodIn_r _ [17] (by decide +kernel) (by decide +kernel)
set_option maxRecDepth 20000 in
theorem gX11_part_X11_within : GoodIn wsX11_part (va_wsS RX11 107 yX11_within wsX11_within) := goodIn_app (goodIn_of _ (by decide +kernel)) ggX11_part_X11_within
theorem dX11_part_25 : decode cX11_part 25 = .ok (.invokestatic 107, 3) := by decide +kernel
theorem dX11_part_28 : decode cX11_part 28 = .ok (.ifCond .eq 15, 3) := by decide +kernel
theorem dX11_part_31 : decode cX11_part 31 = .ok (.aload_n 0, 1) := by decide +kernel
theorem dX11_part_32 : decode cX11_part 32 = .ok (.getfield 49, 3) := by decide +kernel
theorem dX11_part_35 : decode cX11_part 35 = .ok (.getfield 168, 3) := by decide +kernel
theorem dX11_part_38 : decode cX11_part 38 = .ok (.bipush 12, 2) := by decide +kernel
theorem dX11_part_40 : decode cX11_part 40 = .ok (.if_icmp .lt 5, 3) := by decide +kernel
theorem dX11_part_45 : decode cX11_part 45 = .ok (.aload_n 0, 1) := by decide +kernel
theorem dX11_part_46 : decode cX11_part 46 = .ok (.getfield 49, 3) := by decide +kernel
theorem dX11_part_49 : decode cX11_part 49 = .ok (.iload_n 1, 1) := by decide +kernel
theorem dX11_part_50 : decode cX11_part 50 = .ok (.iload_n 2, 1) := by decide +kernel
theorem dX11_part_51 : decode cX11_part 51 = .ok (.iload_n 3, 1) := by decide +kernel
theorem dX11_part_52 : decode cX11_part 52 = .ok (.iload 4, 2) := by decide +kernel
theorem dX11_part_54 : decode cX11_part 54 = .ok (.aload_n 0, 1) := by decide +kernel
theorem dX11_part_55 : decode cX11_part 55 = .ok (.getfield 103, 3) := by decide +kernel
set_option maxRecDepth 20000 in
theorem ggX11_part_X6_add : GoodIn wsX11_part wsX6_add := goodIn_r _ [22, 23, 24, 25, 26, 27, 28, 42, 43, 44, 45, 46, 47, 48, 49, 50, 51, 52, 53, 54, 55, 56, 57, 58] (by decide +kernel) (by decide +kernel)
set_option maxRecDepth 20000 in
theorem gX11_part_X6_add : GoodIn wsX11_part (wsV RX11 171 RX6 yX6_add wsX6_add) := goodIn_app (goodIn_of _ (by decide +kernel)) ggX11_part_X6_add
theorem dX11_part_58 : decode cX11_part 58 = .ok (.invokevirtual 171, 3) := by decide +kernel
theorem dX11_part_61 : decode cX11_part 61 = .ok (.ireturn, 1) := by decide +kernel
/-- HissHorn.part(IIII)I of cell 0 -/
def rmX11_part_0 : Room := { frames := 1, cells := 0, slots := 0, locals := 25 }
theorem hX11_part_0_X11 : ∀ w ∈ u_ws RX11 TX11 13, w ∈ wsX11_part := fun w h => (List.mem_cons_of_mem _ (List.mem_append_left _ (List.mem_append_left _ (List.mem_append_right _ h))))
theorem mX11_part_0_1 : Cond.fieldLink RX11 32 "HissHorn" "laws" "LHissHorn$Shelf;" ∈ wsX11_part := (List.mem_cons_of_mem _ (List.mem_append_left _ (List.mem_append_left _ (List.mem_append_left _ (List.mem_append_left _ (List.mem_of_getElem? (i := 0) rfl))))))
theorem mX11_part_0_2 : Cond.fieldLink RX11 49 "HissHorn" "parts" "LHissHorn$Parts;" ∈ wsX11_part := (List.mem_cons_of_mem _ (List.mem_append_left _ (List.mem_append_left _ (List.mem_append_left _ (List.mem_append_left _ (List.mem_of_getElem? (i := 1) rfl))))))
theorem hX11_part_0_X6 : ∀ w ∈ u_ws RX6 TX6 17, w ∈ wsX11_part := fun w h => (List.mem_cons_of_mem _ (List.mem_append_left _ (List.mem_append_right _ h)))
theorem mX11_part_0_4 : Cond.fieldLink RX11 168 "HissHorn$Parts" "size" "I" ∈ wsX11_part := (List.mem_cons_of_mem _ (List.mem_append_left _ (List.mem_append_left _ (List.mem_append_left _ (List.mem_append_left _ (List.mem_of_getElem? (i := 2) rfl))))))
theorem mX11_part_0_5 : Cond.fieldLink RX11 103 "HissHorn" "now" "I" ∈ wsX11_part := (List.mem_cons_of_mem _ (List.mem_append_left _ (List.mem_append_left _ (List.mem_append_left _ (List.mem_append_left _ (List.mem_of_getElem? (i := 3) rfl))))))
def fX11_part_0 (x1 : Int32) (x2 : Int32) (x3 : Int32) (x4 : Int32) (u : SX) : Option (Int32 × SX) := ((fX8_has_3 x1 u).bind fun q => match q with | (r1, u2) => (if r1 = 0 then (some ((-1), u2)) else ((fX11_isLoudness x2 x3).bind fun r4 => (if r4 = 0 then (some ((-1), u2)) else ((fX11_within x4 0 400).bind fun r7 => (if r7 = 0 then (some ((-1), u2)) else (if (u2.1 8) < 12 then ((fX6_add_6 x1 x2 x3 x4 (u2.1 0) u2).bind fun q => match q with | (r10, u11) => (some (r10, u11))) else (some ((-1), u2)))))))))
set_option maxHeartbeats 4000000 in
set_option maxRecDepth 100000 in
theorem wX11_part_0 {p : Program} {l : Launch} {e : Env} {s : State} {m : MethodId} {args : Array Value} {below : List Frame} {meth : Method} {c : Code} {D : va_G} {cy : Nat → ClassId} {ad st : Nat → Nat} (C : Cx RX11 cX11_part 5 (some .int) wsX11_part p s m args meth c) (hK : Kx D [(cy 0, .int), (cy 1, .long), (cy 2, .boolean), (cy 3, .byte), (cy 4, .object "HissHorn$Text")] st s) (hJ : JX ad) (x1 : Int32) (x2 : Int32) (x3 : Int32) (x4 : Int32) {u : SX} {r : Int32} {u' : SX} {H : Heap} {locs : List Loc} {ls : Array Slot} (h : fX11_part_0 x1 x2 x3 x4 u = some (r, u')) (hP : va_P D vwCl (VX cy ad st u) H) (hS : va_S (Ax (AX ad) s.heap.size) s.heap H locs) (hl : lv_has ls 5 [(0, .ref (ad 0)), (1, .int x1), (2, .int x2), (3, .int x3), (4, .int x4)]) : W p l e rmX11_part_0 s m args below meth c H locs 0 0 (MQ below (Qi D (VX cy ad st) (AX ad) s.heap.size r u') args s 0 0 (Ax (AX ad) s.heap.size)) (F0 m 0 ls []) := by
  unfold fX11_part_0 at h
  refine lv_aload_n C.1 C.2.1 dX11_part_0 rfl (lv_at hl 0 rfl) ?_
  refine gX_0_laws C hX11_part_0_X11 hK hP mX11_part_0_1 dX11_part_1 ?_
  refine lv_iload_n C.1 C.2.1 dX11_part_4 rfl (lv_at hl 1 rfl) ?_
  obtain ⟨⟨r1, u2⟩, hc3, h⟩ := bd_some h
  try dsimp only at h
  refine cg_i (As := [.int x1]) (rest := []) C hK hP hS (metX8_has_3 l D cy ad st hJ _ x1 hc3) (cwV 1 C.2.2.2.2.2.1 gX11_part_X8_has rfl rfl rfl (by decide +kernel) ⟨(Nat.le_of_ble_eq_true rfl), (Nat.le_of_ble_eq_true rfl)⟩) 3 8 rfl rfl rfl hl.1 rfl (Nat.le_of_ble_eq_true rfl) dX11_part_5 ⟨Nat.zero_le _, Nat.zero_le _⟩ (fun H locs hP hS => ?_)
  refine lv_if_eq (tgt := 43) C.1 C.2.1 dX11_part_8 (by decide) (fun c8 => ?_) (fun c8 => ?_)
  · rw [if_pos c8] at h
    refine lv_iconst (v := (-1)) C.1 C.2.1 dX11_part_43 (by decide) ?_
    cases h
    exact rt_i C hP hS dX11_part_44
  · rw [if_neg c8] at h
    refine lv_iload_n C.1 C.2.1 dX11_part_11 rfl (lv_at hl 2 rfl) ?_
    refine lv_iload_n C.1 C.2.1 dX11_part_12 rfl (lv_at hl 3 rfl) ?_
    obtain ⟨r4, hc6, h⟩ := bd_some h
    refine cs_i (As := [.int x2, .int x3]) (rest := []) C hK hP hS (metX11_isLoudness l D cy st _ x2 x3 hc6) (va_cwS 2 C.2.2.2.2.2.1 gX11_part_X11_isLoudness rfl rfl rfl (by decide +kernel) ⟨(Nat.le_of_ble_eq_true rfl), (Nat.le_of_ble_eq_true rfl)⟩) rfl hl.1 rfl (Nat.le_of_ble_eq_true rfl) dX11_part_13 ⟨Nat.zero_le _, Nat.zero_le _⟩ (fun H locs hP hS => ?_)
    refine lv_if_eq (tgt := 43) C.1 C.2.1 dX11_part_16 (by decide) (fun c16 => ?_) (fun c16 => ?_)
    · rw [if_pos c16] at h
      refine lv_iconst (v := (-1)) C.1 C.2.1 dX11_part_43 (by decide) ?_
      cases h
      exact rt_i C hP hS dX11_part_44
    · rw [if_neg c16] at h
      refine lv_iload C.1 C.2.1 dX11_part_19 (lv_at hl 4 rfl) ?_
      refine lv_iconst (v := 0) C.1 C.2.1 dX11_part_21 (by decide) ?_
      refine lv_sipush (v := 400) C.1 C.2.1 dX11_part_22 (by decide) ?_
      obtain ⟨r7, hc9, h⟩ := bd_some h
      refine cs_i (As := [.int x4, .int 0, .int 400]) (rest := []) C hK hP hS (metX11_within l D cy st _ x4 0 400 hc9) (va_cwS 3 C.2.2.2.2.2.1 gX11_part_X11_within rfl rfl rfl (by decide +kernel) ⟨(Nat.le_of_ble_eq_true rfl), (Nat.le_of_ble_eq_true rfl)⟩) rfl hl.1 rfl (Nat.le_of_ble_eq_true rfl) dX11_part_25 ⟨Nat.zero_le _, Nat.zero_le _⟩ (fun H locs hP hS => ?_)
      refine lv_if_eq (tgt := 43) C.1 C.2.1 dX11_part_28 (by decide) (fun c28 => ?_) (fun c28 => ?_)
      · rw [if_pos c28] at h
        refine lv_iconst (v := (-1)) C.1 C.2.1 dX11_part_43 (by decide) ?_
        cases h
        exact rt_i C hP hS dX11_part_44
      · rw [if_neg c28] at h
        refine lv_aload_n C.1 C.2.1 dX11_part_31 rfl (lv_at hl 0 rfl) ?_
        refine gX_0_parts C hX11_part_0_X11 hK hP mX11_part_0_2 dX11_part_32 ?_
        refine gX_6_size C hX11_part_0_X6 hK hP mX11_part_0_4 dX11_part_35 ?_
        refine lv_bipush (v := 12) C.1 C.2.1 dX11_part_38 (by decide) ?_
        refine lv_icmp_lt (tgt := 45) C.1 C.2.1 dX11_part_40 (by decide) (fun c40 => ?_) (fun c40 => ?_)
        · rw [if_pos c40] at h
          refine lv_aload_n C.1 C.2.1 dX11_part_45 rfl (lv_at hl 0 rfl) ?_
          refine gX_0_parts C hX11_part_0_X11 hK hP mX11_part_0_2 dX11_part_46 ?_
          refine lv_iload_n C.1 C.2.1 dX11_part_49 rfl (lv_at hl 1 rfl) ?_
          refine lv_iload_n C.1 C.2.1 dX11_part_50 rfl (lv_at hl 2 rfl) ?_
          refine lv_iload_n C.1 C.2.1 dX11_part_51 rfl (lv_at hl 3 rfl) ?_
          refine lv_iload C.1 C.2.1 dX11_part_52 (lv_at hl 4 rfl) ?_
          refine lv_aload_n C.1 C.2.1 dX11_part_54 rfl (lv_at hl 0 rfl) ?_
          refine gX_0_now C hX11_part_0_X11 hK hP mX11_part_0_5 dX11_part_55 ?_
          obtain ⟨⟨r10, u11⟩, hc12, h⟩ := bd_some h
          try dsimp only at h
          refine cg_i (As := [.int x1, .int x2, .int x3, .int x4, .int (u2.1 0)]) (rest := []) C hK hP hS (metX6_add_6 l D cy ad st hJ _ x1 x2 x3 x4 (u2.1 0) hc12) (cwV 5 C.2.2.2.2.2.1 gX11_part_X6_add rfl rfl rfl (by decide +kernel) ⟨(Nat.le_of_ble_eq_true rfl), (Nat.le_of_ble_eq_true rfl)⟩) 6 6 rfl rfl rfl hl.1 rfl (Nat.le_of_ble_eq_true rfl) dX11_part_58 ⟨Nat.zero_le _, Nat.zero_le _⟩ (fun H locs hP hS => ?_)
          cases h
          exact rt_i C hP hS dX11_part_61
        · rw [if_neg c40] at h
          refine lv_iconst (v := (-1)) C.1 C.2.1 dX11_part_43 (by decide) ?_
          cases h
          exact rt_i C hP hS dX11_part_44
theorem metX11_part_0 (l : Launch) (D : va_G) (cy : Nat → ClassId) (ad st : Nat → Nat) (hJ : JX ad) (sz : Nat) (x1 : Int32) (x2 : Int32) (x3 : Int32) (x4 : Int32) {u : SX} {r : Int32} {u' : SX} (h : fX11_part_0 x1 x2 x3 x4 u = some (r, u')) : Met l yX11_part wsX11_part rmX11_part_0 (va_Pc [.ref (ad 0), .int x1, .int x2, .int x3, .int x4] (Px D [(cy 0, .int), (cy 1, .long), (cy 2, .boolean), (cy 3, .byte), (cy 4, .object "HissHorn$Text")] st (VX cy ad st) sz u)) (Qi D (VX cy ad st) (AX ad) sz r u') 0 0 (Ax (AX ad) sz) := by
  refine Met.ofW (cc := cX11_part) (maxL := 5) (ret := (some .int)) (by decide) rfl ?_
  intro p e s m args below meth c s₁ B hml hv
  obtain ⟨rfl, hsz, hP, hK⟩ := hv
  subst hsz
  have C : Cx RX11 cX11_part 5 (some .int) wsX11_part p s m _ meth c := ⟨B.exec, B.bytes, hml, B.returns, findClass_of_methodNamed B.named, atoms_spec (ws := wsX11_part) B.pre, B.notSynchronized⟩
  have hl := lv_entry ([.ref (ad 0), .int x1, .int x2, .int x3, .int x4]) (n := 5) (Nat.le_of_ble_eq_true rfl)
  rw [lg_entry_eq]
  exact wX11_part_0 C hK hJ x1 x2 x3 x4 h hP va_S.rf hl

theorem dX11_isDay_0 : decode cX11_isDay 0 = .ok (.iload_n 1, 1) := by decide +kernel
theorem dX11_isDay_1 : decode cX11_isDay 1 = .ok (.iconst 0, 1) := by decide +kernel
theorem dX11_isDay_2 : decode cX11_isDay 2 = .ok (.aload_n 0, 1) := by decide +kernel
theorem dX11_isDay_3 : decode cX11_isDay 3 = .ok (.getfield 103, 3) := by decide +kernel
set_option maxRecDepth 20000 in
theorem ggX11_isDay_X11_within : GoodIn wsX11_isDay wsX11_within := goodIn_r _ [5] (by decide +kernel) (by decide +kernel)
set_option maxRecDepth 20000 in
theorem gX11_isDay_X11_within : GoodIn wsX11_isDay (va_wsS RX11 107 yX11_within wsX11_within) := goodIn_app (goodIn_of _ (by decide +kernel)) ggX11_isDay_X11_within
theorem dX11_isDay_6 : decode cX11_isDay 6 = .ok (.invokestatic 107, 3) := by decide +kernel
theorem dX11_isDay_9 : decode cX11_isDay 9 = .ok (.ireturn, 1) := by decide +kernel
/-- HissHorn.isDay(I)Z of cell 0 -/
def rmX11_isDay_0 : Room := { frames := 1, cells := 0, slots := 0, locals := 22 }
theorem hX11_isDay_0_X11 : ∀ w ∈ u_ws RX11 TX11 13, w ∈ wsX11_isDay := fun w h => (List.mem_cons_of_mem _ (List.mem_append_right _ h))
theorem mX11_isDay_0_1 : Cond.fieldLink RX11 103 "HissHorn" "now" "I" ∈ wsX11_isDay := (List.mem_cons_of_mem _ (List.mem_append_left _ (List.mem_of_getElem? (i := 0) rfl)))
def fX11_isDay_0 (x1 : Int32) (u : SX) : Option (Int32 × SX) := ((fX11_within x1 0 (u.1 0)).bind fun r1 => (gd (isB r1) (some (r1, u))))
set_option maxHeartbeats 4000000 in
set_option maxRecDepth 100000 in
theorem wX11_isDay_0 {p : Program} {l : Launch} {e : Env} {s : State} {m : MethodId} {args : Array Value} {below : List Frame} {meth : Method} {c : Code} {D : va_G} {cy : Nat → ClassId} {ad st : Nat → Nat} (C : Cx RX11 cX11_isDay 2 (some .boolean) wsX11_isDay p s m args meth c) (hK : Kx D [(cy 0, .int), (cy 1, .long), (cy 2, .boolean), (cy 3, .byte), (cy 4, .object "HissHorn$Text")] st s) (hJ : JX ad) (x1 : Int32) {u : SX} {r : Int32} {u' : SX} {H : Heap} {locs : List Loc} {ls : Array Slot} (h : fX11_isDay_0 x1 u = some (r, u')) (hP : va_P D vwCl (VX cy ad st u) H) (hS : va_S (Ax (AX ad) s.heap.size) s.heap H locs) (hl : lv_has ls 2 [(0, .ref (ad 0)), (1, .int x1)]) : W p l e rmX11_isDay_0 s m args below meth c H locs 0 0 (MQ below (Qi D (VX cy ad st) (AX ad) s.heap.size r u') args s 0 0 (Ax (AX ad) s.heap.size)) (F0 m 0 ls []) := by
  unfold fX11_isDay_0 at h
  refine lv_iload_n C.1 C.2.1 dX11_isDay_0 rfl (lv_at hl 1 rfl) ?_
  refine lv_iconst (v := 0) C.1 C.2.1 dX11_isDay_1 (by decide) ?_
  refine lv_aload_n C.1 C.2.1 dX11_isDay_2 rfl (lv_at hl 0 rfl) ?_
  refine gX_0_now C hX11_isDay_0_X11 hK hP mX11_isDay_0_1 dX11_isDay_3 ?_
  obtain ⟨r1, hc3, h⟩ := bd_some h
  refine cs_i (As := [.int x1, .int 0, .int (u.1 0)]) (rest := []) C hK hP hS (metX11_within l D cy st _ x1 0 (u.1 0) hc3) (va_cwS 3 C.2.2.2.2.2.1 gX11_isDay_X11_within rfl rfl rfl (by decide +kernel) ⟨(Nat.le_of_ble_eq_true rfl), (Nat.le_of_ble_eq_true rfl)⟩) rfl hl.1 rfl (Nat.le_of_ble_eq_true rfl) dX11_isDay_6 ⟨Nat.zero_le _, Nat.zero_le _⟩ (fun H locs hP hS => ?_)
  obtain ⟨hg4, h⟩ := gd_some h
  cases h
  exact rt_z hg4 C hP hS dX11_isDay_9
theorem metX11_isDay_0 (l : Launch) (D : va_G) (cy : Nat → ClassId) (ad st : Nat → Nat) (hJ : JX ad) (sz : Nat) (x1 : Int32) {u : SX} {r : Int32} {u' : SX} (h : fX11_isDay_0 x1 u = some (r, u')) : Met l yX11_isDay wsX11_isDay rmX11_isDay_0 (va_Pc [.ref (ad 0), .int x1] (Px D [(cy 0, .int), (cy 1, .long), (cy 2, .boolean), (cy 3, .byte), (cy 4, .object "HissHorn$Text")] st (VX cy ad st) sz u)) (Qi D (VX cy ad st) (AX ad) sz r u') 0 0 (Ax (AX ad) sz) := by
  refine Met.ofW (cc := cX11_isDay) (maxL := 2) (ret := (some .boolean)) (by decide) rfl ?_
  intro p e s m args below meth c s₁ B hml hv
  obtain ⟨rfl, hsz, hP, hK⟩ := hv
  subst hsz
  have C : Cx RX11 cX11_isDay 2 (some .boolean) wsX11_isDay p s m _ meth c := ⟨B.exec, B.bytes, hml, B.returns, findClass_of_methodNamed B.named, atoms_spec (ws := wsX11_isDay) B.pre, B.notSynchronized⟩
  have hl := lv_entry ([.ref (ad 0), .int x1]) (n := 2) (Nat.le_of_ble_eq_true rfl)
  rw [lg_entry_eq]
  exact wX11_isDay_0 C hK hJ x1 h hP va_S.rf hl

theorem dX11_isEither_0 : decode cX11_isEither 0 = .ok (.iload_n 0, 1) := by decide +kernel
theorem dX11_isEither_1 : decode cX11_isEither 1 = .ok (.ifCond .eq 8, 3) := by decide +kernel
theorem dX11_isEither_9 : decode cX11_isEither 9 = .ok (.iconst 1, 1) := by decide +kernel
theorem dX11_isEither_10 : decode cX11_isEither 10 = .ok (.goto 4, 3) := by decide +kernel
theorem dX11_isEither_14 : decode cX11_isEither 14 = .ok (.ireturn, 1) := by decide +kernel
theorem dX11_isEither_4 : decode cX11_isEither 4 = .ok (.iload_n 0, 1) := by decide +kernel
theorem dX11_isEither_5 : decode cX11_isEither 5 = .ok (.iconst 1, 1) := by decide +kernel
theorem dX11_isEither_6 : decode cX11_isEither 6 = .ok (.if_icmp .ne 7, 3) := by decide +kernel
theorem dX11_isEither_13 : decode cX11_isEither 13 = .ok (.iconst 0, 1) := by decide +kernel
/-- HissHorn.isEither(I)Z -/
def rmX11_isEither : Room := { frames := 0, cells := 0, slots := 0, locals := 0 }
def fX11_isEither (x0 : Int32) : Option Int32 := (if x0 = 0 then (gd (isB 1) (some 1)) else (if x0 = 1 then (gd (isB 1) (some 1)) else (gd (isB 0) (some 0))))
set_option maxHeartbeats 4000000 in
set_option maxRecDepth 100000 in
theorem wX11_isEither {p : Program} {l : Launch} {e : Env} {s : State} {m : MethodId} {args : Array Value} {below : List Frame} {meth : Method} {c : Code} {D : va_G} {cy : Nat → ClassId} {st : Nat → Nat} (C : Cx RX11 cX11_isEither 1 (some .boolean) wsX11_isEither p s m args meth c) (hK : Kx D [(cy 0, .int), (cy 1, .long), (cy 2, .boolean), (cy 3, .byte), (cy 4, .object "HissHorn$Text")] st s) (x0 : Int32) {r : Int32} {H : Heap} {locs : List Loc} {ls : Array Slot} (h : fX11_isEither x0 = some r) (hP : va_P D vwCl (V0 u00) H) (hS : va_S (Ax (A0) s.heap.size) s.heap H locs) (hl : lv_has ls 1 [(0, .int x0)]) : W p l e rmX11_isEither s m args below meth c H locs 0 0 (MQ below (Qi D (V0) (A0) s.heap.size r u00) args s 0 0 (Ax (A0) s.heap.size)) (F0 m 0 ls []) := by
  unfold fX11_isEither at h
  refine lv_iload_n C.1 C.2.1 dX11_isEither_0 rfl (lv_at hl 0 rfl) ?_
  refine lv_if_eq (tgt := 9) C.1 C.2.1 dX11_isEither_1 (by decide) (fun c1 => ?_) (fun c1 => ?_)
  · rw [if_pos c1] at h
    refine lv_iconst (v := 1) C.1 C.2.1 dX11_isEither_9 (by decide) ?_
    refine lv_goto (tgt := 14) C.1 C.2.1 dX11_isEither_10 (by decide) ?_
    obtain ⟨hg1, h⟩ := gd_some h
    cases h
    exact rt_z hg1 C hP hS dX11_isEither_14
  · rw [if_neg c1] at h
    refine lv_iload_n C.1 C.2.1 dX11_isEither_4 rfl (lv_at hl 0 rfl) ?_
    refine lv_iconst (v := 1) C.1 C.2.1 dX11_isEither_5 (by decide) ?_
    refine lv_icmp_ne (tgt := 13) C.1 C.2.1 dX11_isEither_6 (by decide) (fun c6 => ?_) (fun c6 => ?_)
    · rw [if_neg c6] at h
      refine lv_iconst (v := 0) C.1 C.2.1 dX11_isEither_13 (by decide) ?_
      obtain ⟨hg2, h⟩ := gd_some h
      cases h
      exact rt_z hg2 C hP hS dX11_isEither_14
    · rw [if_pos c6] at h
      refine lv_iconst (v := 1) C.1 C.2.1 dX11_isEither_9 (by decide) ?_
      refine lv_goto (tgt := 14) C.1 C.2.1 dX11_isEither_10 (by decide) ?_
      obtain ⟨hg3, h⟩ := gd_some h
      cases h
      exact rt_z hg3 C hP hS dX11_isEither_14
theorem metX11_isEither (l : Launch) (D : va_G) (cy : Nat → ClassId) (st : Nat → Nat) (sz : Nat) (x0 : Int32) {r : Int32} (h : fX11_isEither x0 = some r) : Met l yX11_isEither wsX11_isEither rmX11_isEither (va_Pc [.int x0] (Px D [(cy 0, .int), (cy 1, .long), (cy 2, .boolean), (cy 3, .byte), (cy 4, .object "HissHorn$Text")] st V0 sz u00)) (Qi D V0 A0 sz r u00) 0 0 (Ax A0 sz) := by
  refine Met.ofW (cc := cX11_isEither) (maxL := 1) (ret := (some .boolean)) (by decide) rfl ?_
  intro p e s m args below meth c s₁ B hml hv
  obtain ⟨rfl, hsz, hP, hK⟩ := hv
  subst hsz
  have C : Cx RX11 cX11_isEither 1 (some .boolean) wsX11_isEither p s m _ meth c := ⟨B.exec, B.bytes, hml, B.returns, findClass_of_methodNamed B.named, atoms_spec (ws := wsX11_isEither) B.pre, B.notSynchronized⟩
  have hl := lv_entry ([.int x0]) (n := 1) (Nat.le_of_ble_eq_true rfl)
  rw [lg_entry_eq]
  exact wX11_isEither C hK x0 h hP va_S.rf hl

theorem dX6_has_0 : decode cX6_has 0 = .ok (.iload_n 1, 1) := by decide +kernel
theorem dX6_has_1 : decode cX6_has 1 = .ok (.ifCond .lt 15, 3) := by decide +kernel
theorem dX6_has_16 : decode cX6_has 16 = .ok (.iconst 0, 1) := by decide +kernel
theorem dX6_has_17 : decode cX6_has 17 = .ok (.ireturn, 1) := by decide +kernel
theorem dX6_has_4 : decode cX6_has 4 = .ok (.iload_n 1, 1) := by decide +kernel
theorem dX6_has_5 : decode cX6_has 5 = .ok (.aload_n 0, 1) := by decide +kernel
theorem dX6_has_6 : decode cX6_has 6 = .ok (.getfield 49, 3) := by decide +kernel
theorem dX6_has_9 : decode cX6_has 9 = .ok (.if_icmp .ge 7, 3) := by decide +kernel
theorem dX6_has_12 : decode cX6_has 12 = .ok (.iconst 1, 1) := by decide +kernel
theorem dX6_has_13 : decode cX6_has 13 = .ok (.goto 4, 3) := by decide +kernel
/-- HissHorn$Parts.has(I)Z of cell 6 -/
def rmX6_has_6 : Room := { frames := 0, cells := 0, slots := 0, locals := 0 }
theorem hX6_has_6_X6 : ∀ w ∈ u_ws RX6 TX6 17, w ∈ wsX6_has := fun w h => (List.mem_cons_of_mem _ (List.mem_append_right _ h))
theorem mX6_has_6_1 : Cond.fieldLink RX6 49 "HissHorn$Parts" "size" "I" ∈ wsX6_has := (List.mem_cons_of_mem _ (List.mem_append_left _ (List.mem_of_getElem? (i := 0) rfl)))
def fX6_has_6 (x1 : Int32) (u : SX) : Option (Int32 × SX) := (if x1 < 0 then (gd (isB 0) (some (0, u))) else (if (u.1 8) ≤ x1 then (gd (isB 0) (some (0, u))) else (gd (isB 1) (some (1, u)))))
set_option maxHeartbeats 4000000 in
set_option maxRecDepth 100000 in
theorem wX6_has_6 {p : Program} {l : Launch} {e : Env} {s : State} {m : MethodId} {args : Array Value} {below : List Frame} {meth : Method} {c : Code} {D : va_G} {cy : Nat → ClassId} {ad st : Nat → Nat} (C : Cx RX6 cX6_has 2 (some .boolean) wsX6_has p s m args meth c) (hK : Kx D [(cy 0, .int), (cy 1, .long), (cy 2, .boolean), (cy 3, .byte), (cy 4, .object "HissHorn$Text")] st s) (hJ : JX ad) (x1 : Int32) {u : SX} {r : Int32} {u' : SX} {H : Heap} {locs : List Loc} {ls : Array Slot} (h : fX6_has_6 x1 u = some (r, u')) (hP : va_P D vwCl (VX cy ad st u) H) (hS : va_S (Ax (AX ad) s.heap.size) s.heap H locs) (hl : lv_has ls 2 [(0, .ref (ad 6)), (1, .int x1)]) : W p l e rmX6_has_6 s m args below meth c H locs 0 0 (MQ below (Qi D (VX cy ad st) (AX ad) s.heap.size r u') args s 0 0 (Ax (AX ad) s.heap.size)) (F0 m 0 ls []) := by
  unfold fX6_has_6 at h
  refine lv_iload_n C.1 C.2.1 dX6_has_0 rfl (lv_at hl 1 rfl) ?_
  refine lv_if_lt (tgt := 16) C.1 C.2.1 dX6_has_1 (by decide) (fun c1 => ?_) (fun c1 => ?_)
  · rw [if_pos c1] at h
    refine lv_iconst (v := 0) C.1 C.2.1 dX6_has_16 (by decide) ?_
    obtain ⟨hg1, h⟩ := gd_some h
    cases h
    exact rt_z hg1 C hP hS dX6_has_17
  · rw [if_neg c1] at h
    refine lv_iload_n C.1 C.2.1 dX6_has_4 rfl (lv_at hl 1 rfl) ?_
    refine lv_aload_n C.1 C.2.1 dX6_has_5 rfl (lv_at hl 0 rfl) ?_
    refine gX_6_size C hX6_has_6_X6 hK hP mX6_has_6_1 dX6_has_6 ?_
    refine lv_icmp_ge (tgt := 16) C.1 C.2.1 dX6_has_9 (by decide) (fun c9 => ?_) (fun c9 => ?_)
    · rw [if_pos c9] at h
      refine lv_iconst (v := 0) C.1 C.2.1 dX6_has_16 (by decide) ?_
      obtain ⟨hg2, h⟩ := gd_some h
      cases h
      exact rt_z hg2 C hP hS dX6_has_17
    · rw [if_neg c9] at h
      refine lv_iconst (v := 1) C.1 C.2.1 dX6_has_12 (by decide) ?_
      refine lv_goto (tgt := 17) C.1 C.2.1 dX6_has_13 (by decide) ?_
      obtain ⟨hg3, h⟩ := gd_some h
      cases h
      exact rt_z hg3 C hP hS dX6_has_17
theorem metX6_has_6 (l : Launch) (D : va_G) (cy : Nat → ClassId) (ad st : Nat → Nat) (hJ : JX ad) (sz : Nat) (x1 : Int32) {u : SX} {r : Int32} {u' : SX} (h : fX6_has_6 x1 u = some (r, u')) : Met l yX6_has wsX6_has rmX6_has_6 (va_Pc [.ref (ad 6), .int x1] (Px D [(cy 0, .int), (cy 1, .long), (cy 2, .boolean), (cy 3, .byte), (cy 4, .object "HissHorn$Text")] st (VX cy ad st) sz u)) (Qi D (VX cy ad st) (AX ad) sz r u') 0 0 (Ax (AX ad) sz) := by
  refine Met.ofW (cc := cX6_has) (maxL := 2) (ret := (some .boolean)) (by decide) rfl ?_
  intro p e s m args below meth c s₁ B hml hv
  obtain ⟨rfl, hsz, hP, hK⟩ := hv
  subst hsz
  have C : Cx RX6 cX6_has 2 (some .boolean) wsX6_has p s m _ meth c := ⟨B.exec, B.bytes, hml, B.returns, findClass_of_methodNamed B.named, atoms_spec (ws := wsX6_has) B.pre, B.notSynchronized⟩
  have hl := lv_entry ([.ref (ad 6), .int x1]) (n := 2) (Nat.le_of_ble_eq_true rfl)
  rw [lg_entry_eq]
  exact wX6_has_6 C hK hJ x1 h hP va_S.rf hl

theorem dX11_rowsUpTo_11 : decode cX11_rowsUpTo 11 = .ok (.iload 4, 2) := by decide +kernel
theorem dX11_rowsUpTo_13 : decode cX11_rowsUpTo 13 = .ok (.iload_n 2, 1) := by decide +kernel
theorem dX11_rowsUpTo_14 : decode cX11_rowsUpTo 14 = .ok (.if_icmp .ge 17, 3) := by decide +kernel
theorem dX11_rowsUpTo_17 : decode cX11_rowsUpTo 17 = .ok (.aload_n 1, 1) := by decide +kernel
theorem dX11_rowsUpTo_18 : decode cX11_rowsUpTo 18 = .ok (.iload 4, 2) := by decide +kernel
theorem dX11_rowsUpTo_20 : decode cX11_rowsUpTo 20 = .ok (.iaload, 1) := by decide +kernel
theorem dX11_rowsUpTo_21 : decode cX11_rowsUpTo 21 = .ok (.iload_n 0, 1) := by decide +kernel
theorem dX11_rowsUpTo_22 : decode cX11_rowsUpTo 22 = .ok (.if_icmp .gt 9, 3) := by decide +kernel
theorem dX11_rowsUpTo_25 : decode cX11_rowsUpTo 25 = .ok (.iinc 4 1, 3) := by decide +kernel
theorem dX11_rowsUpTo_28 : decode cX11_rowsUpTo 28 = .ok (.goto (-17), 3) := by decide +kernel
theorem dX11_rowsUpTo_31 : decode cX11_rowsUpTo 31 = .ok (.iload 4, 2) := by decide +kernel
theorem dX11_rowsUpTo_33 : decode cX11_rowsUpTo 33 = .ok (.ifCond .le 19, 3) := by decide +kernel
theorem dX11_rowsUpTo_52 : decode cX11_rowsUpTo 52 = .ok (.iload 4, 2) := by decide +kernel
theorem dX11_rowsUpTo_54 : decode cX11_rowsUpTo 54 = .ok (.ireturn, 1) := by decide +kernel
theorem dX11_rowsUpTo_36 : decode cX11_rowsUpTo 36 = .ok (.aload_n 1, 1) := by decide +kernel
theorem dX11_rowsUpTo_37 : decode cX11_rowsUpTo 37 = .ok (.iload 4, 2) := by decide +kernel
theorem dX11_rowsUpTo_39 : decode cX11_rowsUpTo 39 = .ok (.iconst 1, 1) := by decide +kernel
theorem dX11_rowsUpTo_40 : decode cX11_rowsUpTo 40 = .ok (.isub, 1) := by decide +kernel
theorem dX11_rowsUpTo_41 : decode cX11_rowsUpTo 41 = .ok (.iaload, 1) := by decide +kernel
theorem dX11_rowsUpTo_42 : decode cX11_rowsUpTo 42 = .ok (.iload_n 0, 1) := by decide +kernel
theorem dX11_rowsUpTo_43 : decode cX11_rowsUpTo 43 = .ok (.if_icmp .le 9, 3) := by decide +kernel
theorem dX11_rowsUpTo_46 : decode cX11_rowsUpTo 46 = .ok (.iinc 4 (-1), 3) := by decide +kernel
theorem dX11_rowsUpTo_49 : decode cX11_rowsUpTo 49 = .ok (.goto (-18), 3) := by decide +kernel
theorem dX11_rowsUpTo_0 : decode cX11_rowsUpTo 0 = .ok (.iconst 0, 1) := by decide +kernel
theorem dX11_rowsUpTo_1 : decode cX11_rowsUpTo 1 = .ok (.iload_n 3, 1) := by decide +kernel
theorem dX11_rowsUpTo_2 : decode cX11_rowsUpTo 2 = .ok (.iload_n 2, 1) := by decide +kernel
theorem dX11_rowsUpTo_3 : decode cX11_rowsUpTo 3 = .ok (.invokestatic 400, 3) := by decide +kernel
theorem dX11_rowsUpTo_6 : decode cX11_rowsUpTo 6 = .ok (.invokestatic 403, 3) := by decide +kernel
theorem dX11_rowsUpTo_9 : decode cX11_rowsUpTo 9 = .ok (.istore 4, 2) := by decide +kernel
/-- HissHorn.rowsUpTo(I[III)I -/
def rmX11_rowsUpTo_a25 : Room := { frames := 1, cells := 0, slots := 0, locals := 14 }
theorem mX11_rowsUpTo_a25_0 : Cond.methodLink RX11 400 Lib.Math.min.name ∈ wsX11_rowsUpTo := (List.mem_cons_of_mem _ (List.mem_of_getElem? (i := 0) rfl))
theorem mX11_rowsUpTo_a25_1 : Cond.static Lib.Math.min.name ∈ wsX11_rowsUpTo := (List.mem_cons_of_mem _ (List.mem_of_getElem? (i := 1) rfl))
theorem mX11_rowsUpTo_a25_2 : Cond.initialized "java/lang/Math" ∈ wsX11_rowsUpTo := (List.mem_cons_of_mem _ (List.mem_of_getElem? (i := 2) rfl))
theorem mX11_rowsUpTo_a25_3 : Cond.code Lib.Math.min.name Lib.Math.min.code 2 (some .int) ∈ wsX11_rowsUpTo := (List.mem_cons_of_mem _ (List.mem_of_getElem? (i := 3) rfl))
theorem mX11_rowsUpTo_a25_4 : Cond.methodLink RX11 403 Lib.Math.max.name ∈ wsX11_rowsUpTo := (List.mem_cons_of_mem _ (List.mem_of_getElem? (i := 4) rfl))
theorem mX11_rowsUpTo_a25_5 : Cond.static Lib.Math.max.name ∈ wsX11_rowsUpTo := (List.mem_cons_of_mem _ (List.mem_of_getElem? (i := 5) rfl))
theorem mX11_rowsUpTo_a25_6 : Cond.code Lib.Math.max.name Lib.Math.max.code 2 (some .int) ∈ wsX11_rowsUpTo := (List.mem_cons_of_mem _ (List.mem_of_getElem? (i := 6) rfl))
def LX11_rowsUpTo_a25_11 (k31 : Int32 → Int32 → SX → Option (Int32 × SX)) : Nat → Int32 → Int32 → Int32 → SX → Option (Int32 × SX)
  | 0, _, _, _, _ => none
  | n + 1, z0, z2, z4, u => (if z2 ≤ z4 then (k31 z0 z4 u) else (gd (inb z4 12) (if z0 < (u.2.1 25 z4.toNatClampNeg) then (k31 z0 z4 u) else ((LX11_rowsUpTo_a25_11 k31 n) z0 z2 (z4 + 1) u))))
def LX11_rowsUpTo_a25_31  : Nat → Int32 → Int32 → SX → Option (Int32 × SX)
  | 0, _, _, _ => none
  | n + 1, z0, z4, u => (if z4 ≤ 0 then (some (z4, u)) else (gd (inb (z4 - 1) 12) (if (u.2.1 25 (z4 - 1).toNatClampNeg) ≤ z0 then (some (z4, u)) else ((LX11_rowsUpTo_a25_31 n) z0 (z4 + (-1)) u))))
def fX11_rowsUpTo_a25 (x0 : Int32) (x2 : Int32) (x3 : Int32) (u : SX) : Option (Int32 × SX) := (lt (if 0 < (if x2 < x3 then x2 else x3) then (if x2 < x3 then x2 else x3) else 0) fun v1 => (LX11_rowsUpTo_a25_11 (LX11_rowsUpTo_a25_31  5000) 5000 x0 x2 v1 u))
set_option maxHeartbeats 4000000 in
set_option maxRecDepth 100000 in
theorem wLX11_rowsUpTo_a25_11 {p : Program} {l : Launch} {e : Env} {s : State} {m : MethodId} {args : Array Value} {below : List Frame} {meth : Method} {c : Code} {D : va_G} {cy : Nat → ClassId} {ad st : Nat → Nat} (C : Cx RX11 cX11_rowsUpTo 5 (some .int) wsX11_rowsUpTo p s m args meth c) (hK : Kx D [(cy 0, .int), (cy 1, .long), (cy 2, .boolean), (cy 3, .byte), (cy 4, .object "HissHorn$Text")] st s) (hJ : JX ad) {r : Int32} {u' : SX} {k31 : Int32 → Int32 → SX → Option (Int32 × SX)} (hk31 : ∀ (z0 : Int32) (z4 : Int32) (u : SX) (H : Heap) (locs : List Loc) (ls : Array Slot), k31 z0 z4 u = some (r, u') → va_P D vwCl (VX cy ad st u) H → va_S (Ax (AX ad) s.heap.size) s.heap H locs → lv_has ls 5 [(0, .int z0), (1, .ref (ad 25)), (4, .int z4)] → W p l e rmX11_rowsUpTo_a25 s m args below meth c H locs 0 0 (MQ below (Qi D (VX cy ad st) (AX ad) s.heap.size r u') args s 0 0 (Ax (AX ad) s.heap.size)) (F0 m 31 ls [])) : ∀ (n : Nat) (z0 : Int32) (z2 : Int32) (z4 : Int32) (u : SX) (H : Heap) (locs : List Loc) (ls : Array Slot), LX11_rowsUpTo_a25_11 k31 n z0 z2 z4 u = some (r, u') → va_P D vwCl (VX cy ad st u) H → va_S (Ax (AX ad) s.heap.size) s.heap H locs → lv_has ls 5 [(0, .int z0), (1, .ref (ad 25)), (2, .int z2), (4, .int z4)] → W p l e rmX11_rowsUpTo_a25 s m args below meth c H locs 0 0 (MQ below (Qi D (VX cy ad st) (AX ad) s.heap.size r u') args s 0 0 (Ax (AX ad) s.heap.size)) (F0 m 11 ls []) := by
  intro n
  induction n with
  | zero =>
    intro z0 z2 z4 u H locs ls h
    exact absurd h (by intro q; cases q)
  | succ n ih =>
    intro z0 z2 z4 u H locs ls h hP hS hl
    rw [LX11_rowsUpTo_a25_11] at h
    refine lv_iload C.1 C.2.1 dX11_rowsUpTo_11 (lv_at hl 3 rfl) ?_
    refine lv_iload_n C.1 C.2.1 dX11_rowsUpTo_13 rfl (lv_at hl 2 rfl) ?_
    refine lv_icmp_ge (tgt := 31) C.1 C.2.1 dX11_rowsUpTo_14 (by decide) (fun c14 => ?_) (fun c14 => ?_)
    · rw [if_pos c14] at h
      exact hk31 _ _ _ _ _ _ h hP hS (lv_sub hl [0, 1, 3] rfl)
    · rw [if_neg c14] at h
      refine lv_aload_n C.1 C.2.1 dX11_rowsUpTo_17 rfl (lv_at hl 1 rfl) ?_
      refine lv_iload C.1 C.2.1 dX11_rowsUpTo_18 (lv_at hl 3 rfl) ?_
      obtain ⟨hg3, h⟩ := gd_some h
      refine lX_25 C hK hP hg3 dX11_rowsUpTo_20 ?_
      refine lv_iload_n C.1 C.2.1 dX11_rowsUpTo_21 rfl (lv_at hl 0 rfl) ?_
      refine lv_icmp_gt (tgt := 31) C.1 C.2.1 dX11_rowsUpTo_22 (by decide) (fun c22 => ?_) (fun c22 => ?_)
      · rw [if_pos c22] at h
        exact hk31 _ _ _ _ _ _ h hP hS (lv_sub hl [0, 1, 3] rfl)
      · rw [if_neg c22] at h
        refine lv_iinc (v := z4 + 1) (lv' := [(4, .int (z4 + 1)), (0, .int z0), (1, .ref (ad 25)), (2, .int z2)]) C.1 C.2.1 dX11_rowsUpTo_25 hl (k := 3) rfl rfl (by decide) rfl (fun ls hl => ?_)
        replace hl := lv_sub (l' := [(0, .int z0), (1, .ref (ad 25)), (2, .int z2), (4, .int (z4 + 1))]) hl [1, 2, 3, 0] rfl
        refine lv_goto (tgt := 11) C.1 C.2.1 dX11_rowsUpTo_28 (by decide) ?_
        exact ih _ _ _ _ _ _ _ h hP hS hl
set_option maxHeartbeats 4000000 in
set_option maxRecDepth 100000 in
theorem wLX11_rowsUpTo_a25_31 {p : Program} {l : Launch} {e : Env} {s : State} {m : MethodId} {args : Array Value} {below : List Frame} {meth : Method} {c : Code} {D : va_G} {cy : Nat → ClassId} {ad st : Nat → Nat} (C : Cx RX11 cX11_rowsUpTo 5 (some .int) wsX11_rowsUpTo p s m args meth c) (hK : Kx D [(cy 0, .int), (cy 1, .long), (cy 2, .boolean), (cy 3, .byte), (cy 4, .object "HissHorn$Text")] st s) (hJ : JX ad) {r : Int32} {u' : SX}   : ∀ (n : Nat) (z0 : Int32) (z4 : Int32) (u : SX) (H : Heap) (locs : List Loc) (ls : Array Slot), LX11_rowsUpTo_a25_31  n z0 z4 u = some (r, u') → va_P D vwCl (VX cy ad st u) H → va_S (Ax (AX ad) s.heap.size) s.heap H locs → lv_has ls 5 [(0, .int z0), (1, .ref (ad 25)), (4, .int z4)] → W p l e rmX11_rowsUpTo_a25 s m args below meth c H locs 0 0 (MQ below (Qi D (VX cy ad st) (AX ad) s.heap.size r u') args s 0 0 (Ax (AX ad) s.heap.size)) (F0 m 31 ls []) := by
  intro n
  induction n with
  | zero =>
    intro z0 z4 u H locs ls h
    exact absurd h (by intro q; cases q)
  | succ n ih =>
    intro z0 z4 u H locs ls h hP hS hl
    rw [LX11_rowsUpTo_a25_31] at h
    refine lv_iload C.1 C.2.1 dX11_rowsUpTo_31 (lv_at hl 2 rfl) ?_
    refine lv_if_le (tgt := 52) C.1 C.2.1 dX11_rowsUpTo_33 (by decide) (fun c33 => ?_) (fun c33 => ?_)
    · rw [if_pos c33] at h
      refine lv_iload C.1 C.2.1 dX11_rowsUpTo_52 (lv_at hl 2 rfl) ?_
      cases h
      exact rt_i C hP hS dX11_rowsUpTo_54
    · rw [if_neg c33] at h
      refine lv_aload_n C.1 C.2.1 dX11_rowsUpTo_36 rfl (lv_at hl 1 rfl) ?_
      refine lv_iload C.1 C.2.1 dX11_rowsUpTo_37 (lv_at hl 2 rfl) ?_
      refine lv_iconst (v := 1) C.1 C.2.1 dX11_rowsUpTo_39 (by decide) ?_
      refine lv_isub C.1 C.2.1 dX11_rowsUpTo_40 ?_
      obtain ⟨hg4, h⟩ := gd_some h
      refine lX_25 C hK hP hg4 dX11_rowsUpTo_41 ?_
      refine lv_iload_n C.1 C.2.1 dX11_rowsUpTo_42 rfl (lv_at hl 0 rfl) ?_
      refine lv_icmp_le (tgt := 52) C.1 C.2.1 dX11_rowsUpTo_43 (by decide) (fun c43 => ?_) (fun c43 => ?_)
      · rw [if_pos c43] at h
        refine lv_iload C.1 C.2.1 dX11_rowsUpTo_52 (lv_at hl 2 rfl) ?_
        cases h
        exact rt_i C hP hS dX11_rowsUpTo_54
      · rw [if_neg c43] at h
        refine lv_iinc (v := z4 + (-1)) (lv' := [(4, .int (z4 + (-1))), (0, .int z0), (1, .ref (ad 25))]) C.1 C.2.1 dX11_rowsUpTo_46 hl (k := 2) rfl rfl (by decide) rfl (fun ls hl => ?_)
        replace hl := lv_sub (l' := [(0, .int z0), (1, .ref (ad 25)), (4, .int (z4 + (-1)))]) hl [1, 2, 0] rfl
        refine lv_goto (tgt := 31) C.1 C.2.1 dX11_rowsUpTo_49 (by decide) ?_
        exact ih _ _ _ _ _ _ h hP hS hl
set_option maxHeartbeats 4000000 in
set_option maxRecDepth 100000 in
theorem wX11_rowsUpTo_a25 {p : Program} {l : Launch} {e : Env} {s : State} {m : MethodId} {args : Array Value} {below : List Frame} {meth : Method} {c : Code} {D : va_G} {cy : Nat → ClassId} {ad st : Nat → Nat} (C : Cx RX11 cX11_rowsUpTo 5 (some .int) wsX11_rowsUpTo p s m args meth c) (hK : Kx D [(cy 0, .int), (cy 1, .long), (cy 2, .boolean), (cy 3, .byte), (cy 4, .object "HissHorn$Text")] st s) (hJ : JX ad) (x0 : Int32) (x2 : Int32) (x3 : Int32) {u : SX} {r : Int32} {u' : SX} {H : Heap} {locs : List Loc} {ls : Array Slot} (h : fX11_rowsUpTo_a25 x0 x2 x3 u = some (r, u')) (hP : va_P D vwCl (VX cy ad st u) H) (hS : va_S (Ax (AX ad) s.heap.size) s.heap H locs) (hl : lv_has ls 5 [(0, .int x0), (1, .ref (ad 25)), (2, .int x2), (3, .int x3)]) : W p l e rmX11_rowsUpTo_a25 s m args below meth c H locs 0 0 (MQ below (Qi D (VX cy ad st) (AX ad) s.heap.size r u') args s 0 0 (Ax (AX ad) s.heap.size)) (F0 m 0 ls []) := by
  unfold fX11_rowsUpTo_a25 at h
  refine lv_iconst (v := 0) C.1 C.2.1 dX11_rowsUpTo_0 (by decide) ?_
  refine lv_iload_n C.1 C.2.1 dX11_rowsUpTo_1 rfl (lv_at hl 3 rfl) ?_
  refine lv_iload_n C.1 C.2.1 dX11_rowsUpTo_2 rfl (lv_at hl 2 rfl) ?_
  refine va_mmin C.1 C.2.1 (C.2.2.1.trans hl.1.symm) C.2.2.2.2.1 (C.2.2.2.2.2.1 _ mX11_rowsUpTo_a25_0) (C.2.2.2.2.2.1 _ mX11_rowsUpTo_a25_1) (C.2.2.2.2.2.1 _ mX11_rowsUpTo_a25_2) (C.2.2.2.2.2.1 _ mX11_rowsUpTo_a25_3) (Nat.le_of_ble_eq_true rfl) (Nat.le_of_ble_eq_true rfl) (Nat.zero_le _) (Nat.zero_le _) dX11_rowsUpTo_3 ?_
  refine va_mmax C.1 C.2.1 (C.2.2.1.trans hl.1.symm) C.2.2.2.2.1 (C.2.2.2.2.2.1 _ mX11_rowsUpTo_a25_4) (C.2.2.2.2.2.1 _ mX11_rowsUpTo_a25_5) (C.2.2.2.2.2.1 _ mX11_rowsUpTo_a25_2) (C.2.2.2.2.2.1 _ mX11_rowsUpTo_a25_6) (Nat.le_of_ble_eq_true rfl) (Nat.le_of_ble_eq_true rfl) (Nat.zero_le _) (Nat.zero_le _) dX11_rowsUpTo_6 ?_
  refine lv_topi (fun v1 hv2 => ?_)
  replace h := lt_e hv2 h
  try dsimp only at h
  refine lv_istore (lv' := [(4, .int v1), (0, .int x0), (1, .ref (ad 25)), (2, .int x2), (3, .int x3)]) C.1 C.2.1 dX11_rowsUpTo_9 hl (by decide) rfl (fun ls hl => ?_)
  replace hl := lv_sub (l' := [(0, .int x0), (1, .ref (ad 25)), (2, .int x2), (3, .int x3), (4, .int v1)]) hl [1, 2, 3, 4, 0] rfl
  exact wLX11_rowsUpTo_a25_11 C hK hJ (wLX11_rowsUpTo_a25_31 C hK hJ  5000) 5000 _ _ _ _ _ _ _ h hP hS (lv_sub hl [0, 1, 2, 4] rfl)
theorem metX11_rowsUpTo_a25 (l : Launch) (D : va_G) (cy : Nat → ClassId) (ad st : Nat → Nat) (hJ : JX ad) (sz : Nat) (x0 : Int32) (x2 : Int32) (x3 : Int32) {u : SX} {r : Int32} {u' : SX} (h : fX11_rowsUpTo_a25 x0 x2 x3 u = some (r, u')) : Met l yX11_rowsUpTo wsX11_rowsUpTo rmX11_rowsUpTo_a25 (va_Pc [.int x0, .ref (ad 25), .int x2, .int x3] (Px D [(cy 0, .int), (cy 1, .long), (cy 2, .boolean), (cy 3, .byte), (cy 4, .object "HissHorn$Text")] st (VX cy ad st) sz u)) (Qi D (VX cy ad st) (AX ad) sz r u') 0 0 (Ax (AX ad) sz) := by
  refine Met.ofW (cc := cX11_rowsUpTo) (maxL := 5) (ret := (some .int)) (by decide) rfl ?_
  intro p e s m args below meth c s₁ B hml hv
  obtain ⟨rfl, hsz, hP, hK⟩ := hv
  subst hsz
  have C : Cx RX11 cX11_rowsUpTo 5 (some .int) wsX11_rowsUpTo p s m _ meth c := ⟨B.exec, B.bytes, hml, B.returns, findClass_of_methodNamed B.named, atoms_spec (ws := wsX11_rowsUpTo) B.pre, B.notSynchronized⟩
  have hl := lv_entry ([.int x0, .ref (ad 25), .int x2, .int x3]) (n := 5) (Nat.le_of_ble_eq_true rfl)
  rw [lg_entry_eq]
  exact wX11_rowsUpTo_a25 C hK hJ x0 x2 x3 h hP va_S.rf hl
