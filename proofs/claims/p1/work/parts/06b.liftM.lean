theorem dX12_compares_12 : decode cX12_compares 12 = .ok (.istore_n 3, 1) := by decide +kernel
theorem dX12_compares_13 : decode cX12_compares 13 = .ok (.aload_n 0, 1) := by decide +kernel
theorem dX12_compares_14 : decode cX12_compares 14 = .ok (.getfield 182, 3) := by decide +kernel
theorem dX12_compares_17 : decode cX12_compares 17 = .ok (.iconst (-1), 1) := by decide +kernel
theorem dX12_compares_18 : decode cX12_compares 18 = .ok (.if_icmp .eq 5, 3) := by decide +kernel
theorem dX12_compares_23 : decode cX12_compares 23 = .ok (.aload_n 0, 1) := by decide +kernel
set_option maxRecDepth 20000 in
theorem ggX12_compares_X12_look : GoodIn wsX12_compares wsX12_look := goodIn_r _ [14, 2, 15, 16, 17, 145, 146, 147, 148, 149, 150, 151, 152, 153, 154, 155, 156, 157, 158, 159, 160, 161, 162, 163, 164, 165, 166, 167, 168, 169, 170, 171, 172, 173, 174, 175, 176, 177, 178, 179, 180, 181, 182, 183, 184, 185, 186, 187, 188, 189, 190, 191, 192, 193, 194, 195, 196, 197, 198, 199, 200, 201, 202, 203, 204, 205, 206, 207, 208, 209, 210, 211, 212, 213] (by decide +kernel) (by decide +kernel)
set_option maxRecDepth 20000 in
theorem gX12_compares_X12_look : GoodIn wsX12_compares (wsV RX12 192 RX12 yX12_look wsX12_look) := goodIn_app (goodIn_of _ (by decide +kernel)) ggX12_compares_X12_look
theorem dX12_compares_24 : decode cX12_compares 24 = .ok (.invokevirtual 192, 3) := by decide +kernel
theorem dX12_compares_27 : decode cX12_compares 27 = .ok (.istore 4, 2) := by decide +kernel
theorem dX12_compares_29 : decode cX12_compares 29 = .ok (.iload 4, 2) := by decide +kernel
set_option maxRecDepth 20000 in
theorem ggX12_compares_X12_isSign : GoodIn wsX12_compares wsX12_isSign := goodIn_r _ [144] (by decide +kernel) (by decide +kernel)
set_option maxRecDepth 20000 in
theorem gX12_compares_X12_isSign : GoodIn wsX12_compares (va_wsS RX12 237 yX12_isSign wsX12_isSign) := goodIn_app (goodIn_of _ (by decide +kernel)) ggX12_compares_X12_isSign
theorem dX12_compares_31 : decode cX12_compares 31 = .ok (.invokestatic 237, 3) := by decide +kernel
theorem dX12_compares_34 : decode cX12_compares 34 = .ok (.ifCond .ne 8, 3) := by decide +kernel
theorem dX12_compares_42 : decode cX12_compares 42 = .ok (.aload_n 0, 1) := by decide +kernel
theorem dX12_compares_43 : decode cX12_compares 43 = .ok (.dup, 1) := by decide +kernel
theorem dX12_compares_44 : decode cX12_compares 44 = .ok (.getfield 173, 3) := by decide +kernel
theorem dX12_compares_47 : decode cX12_compares 47 = .ok (.iconst 1, 1) := by decide +kernel
theorem dX12_compares_48 : decode cX12_compares 48 = .ok (.iadd, 1) := by decide +kernel
theorem dX12_compares_49 : decode cX12_compares 49 = .ok (.putfield 173, 3) := by decide +kernel
theorem dX12_compares_52 : decode cX12_compares 52 = .ok (.aload_n 0, 1) := by decide +kernel
set_option maxRecDepth 20000 in
theorem ggX12_compares_X12_sum : GoodIn wsX12_compares wsX12_sum := goodIn_r _ [7, 1, 2, 8, 9, 10, 6, 11, 12, 13, 14, 15, 16, 17, 18, 19, 20, 21, 22, 23, 24, 25, 26, 27, 28, 29, 30, 31, 32, 33, 34, 35, 36, 37, 38, 39, 40, 41, 42, 43, 44, 45, 46, 47, 48, 49, 50, 51, 52, 53, 54, 55, 56, 57, 58, 59, 60, 61, 62, 63, 64, 65, 66, 67, 68, 69, 70, 71, 72, 73, 74, 75, 76, 77, 78, 79, 80, 81, 82, 83, 84, 85, 86, 87, 88, 89, 90, 91, 92, 93, 94, 95, 96, 97, 98, 99, 100, 101, 102, 103, 104, 105, 106, 107, 108, 109, 110, 111, 112, 113, 114, 115, 116, 117, 118, 119, 120, 121, 122, 123, 124, 125, 126, 127, 128, 129, 3, 4, 5, 130, 131, 132, 133, 134, 135, 136, 137, 138, 139, 140, 141, 145, 146, 147, 148, 149, 150, 151, 152, 153, 154, 155, 156, 157, 158, 159, 160, 161, 162, 163, 164, 165, 166, 167, 168, 169, 170, 171, 172, 173, 174, 175, 176, 177, 178, 179, 180, 181, 182, 183, 184, 185, 186, 187, 188, 189, 190, 191, 192, 193, 194, 195, 196, 197, 198, 199, 200, 201, 202, 203, 204, 205, 206, 207, 208, 209, 210, 211, 212, 213] (by decide +kernel) (by decide +kernel)
set_option maxRecDepth 20000 in
theorem gX12_compares_X12_sum : GoodIn wsX12_compares (wsV RX12 217 RX12 yX12_sum wsX12_sum) := goodIn_app (goodIn_of _ (by decide +kernel)) ggX12_compares_X12_sum
theorem dX12_compares_53 : decode cX12_compares 53 = .ok (.invokevirtual 217, 3) := by decide +kernel
theorem dX12_compares_56 : decode cX12_compares 56 = .ok (.istore 5, 2) := by decide +kernel
theorem dX12_compares_58 : decode cX12_compares 58 = .ok (.iload 4, 2) := by decide +kernel
theorem dX12_compares_60 : decode cX12_compares 60 = .ok (.bipush 61, 2) := by decide +kernel
theorem dX12_compares_62 : decode cX12_compares 62 = .ok (.if_icmp .ne 17, 3) := by decide +kernel
theorem dX12_compares_79 : decode cX12_compares 79 = .ok (.iload 4, 2) := by decide +kernel
theorem dX12_compares_81 : decode cX12_compares 81 = .ok (.bipush 60, 2) := by decide +kernel
theorem dX12_compares_83 : decode cX12_compares 83 = .ok (.if_icmp .ne 17, 3) := by decide +kernel
theorem dX12_compares_100 : decode cX12_compares 100 = .ok (.iload_n 3, 1) := by decide +kernel
theorem dX12_compares_101 : decode cX12_compares 101 = .ok (.iload 5, 2) := by decide +kernel
theorem dX12_compares_103 : decode cX12_compares 103 = .ok (.if_icmp .le 7, 3) := by decide +kernel
theorem dX12_compares_110 : decode cX12_compares 110 = .ok (.iconst 0, 1) := by decide +kernel
theorem dX12_compares_111 : decode cX12_compares 111 = .ok (.ireturn, 1) := by decide +kernel
theorem dX12_compares_106 : decode cX12_compares 106 = .ok (.iconst 1, 1) := by decide +kernel
theorem dX12_compares_107 : decode cX12_compares 107 = .ok (.goto 4, 3) := by decide +kernel
theorem dX12_compares_86 : decode cX12_compares 86 = .ok (.iload_n 3, 1) := by decide +kernel
theorem dX12_compares_87 : decode cX12_compares 87 = .ok (.iload 5, 2) := by decide +kernel
theorem dX12_compares_89 : decode cX12_compares 89 = .ok (.if_icmp .ge 7, 3) := by decide +kernel
theorem dX12_compares_96 : decode cX12_compares 96 = .ok (.iconst 0, 1) := by decide +kernel
theorem dX12_compares_97 : decode cX12_compares 97 = .ok (.goto 14, 3) := by decide +kernel
theorem dX12_compares_92 : decode cX12_compares 92 = .ok (.iconst 1, 1) := by decide +kernel
theorem dX12_compares_93 : decode cX12_compares 93 = .ok (.goto 18, 3) := by decide +kernel
theorem dX12_compares_65 : decode cX12_compares 65 = .ok (.iload_n 3, 1) := by decide +kernel
theorem dX12_compares_66 : decode cX12_compares 66 = .ok (.iload 5, 2) := by decide +kernel
theorem dX12_compares_68 : decode cX12_compares 68 = .ok (.if_icmp .ne 7, 3) := by decide +kernel
theorem dX12_compares_75 : decode cX12_compares 75 = .ok (.iconst 0, 1) := by decide +kernel
theorem dX12_compares_76 : decode cX12_compares 76 = .ok (.goto 35, 3) := by decide +kernel
theorem dX12_compares_71 : decode cX12_compares 71 = .ok (.iconst 1, 1) := by decide +kernel
theorem dX12_compares_72 : decode cX12_compares 72 = .ok (.goto 39, 3) := by decide +kernel
theorem dX12_compares_37 : decode cX12_compares 37 = .ok (.aload_n 0, 1) := by decide +kernel
set_option maxRecDepth 20000 in
theorem ggX12_compares_X12_fails : GoodIn wsX12_compares wsX12_fails := goodIn_r _ [129, 1, 2, 145, 146, 147, 148, 149, 150, 151, 152, 153, 154, 155, 156, 157, 158, 159, 160, 161, 162, 163, 164, 165, 166, 167, 168, 169, 170, 171, 172, 173, 174, 175, 176, 177, 178, 179, 180, 181, 182, 183, 184, 185, 186, 187, 188, 189, 190, 191, 192, 193, 194, 195, 196, 197, 198, 199, 200, 201, 202, 203, 204, 205, 206, 207, 208, 209, 210, 211, 212, 213] (by decide +kernel) (by decide +kernel)
set_option maxRecDepth 20000 in
theorem gX12_compares_X12_fails : GoodIn wsX12_compares (wsV RX12 188 RX12 yX12_fails wsX12_fails) := goodIn_app (goodIn_of _ (by decide +kernel)) ggX12_compares_X12_fails
theorem dX12_compares_38 : decode cX12_compares 38 = .ok (.invokevirtual 188, 3) := by decide +kernel
theorem dX12_compares_41 : decode cX12_compares 41 = .ok (.ireturn, 1) := by decide +kernel
theorem dX12_compares_21 : decode cX12_compares 21 = .ok (.iconst 0, 1) := by decide +kernel
theorem dX12_compares_22 : decode cX12_compares 22 = .ok (.ireturn, 1) := by decide +kernel
theorem dX12_compares_0 : decode cX12_compares 0 = .ok (.iload_n 1, 1) := by decide +kernel
theorem dX12_compares_1 : decode cX12_compares 1 = .ok (.ifCond .eq 7, 3) := by decide +kernel
theorem dX12_compares_8 : decode cX12_compares 8 = .ok (.aload_n 0, 1) := by decide +kernel
theorem dX12_compares_9 : decode cX12_compares 9 = .ok (.invokevirtual 217, 3) := by decide +kernel
theorem dX12_compares_4 : decode cX12_compares 4 = .ok (.iload_n 2, 1) := by decide +kernel
theorem dX12_compares_5 : decode cX12_compares 5 = .ok (.goto 7, 3) := by decide +kernel
/-- HissHornModel.compares(ZI)Z of cell 0 -/
def rmX12_compares_0 : Room := { frames := 67, cells := 0, slots := 0, locals := 4161 }
theorem hX12_compares_0_X12 : ∀ w ∈ u_ws RX12 TX12 69, w ∈ wsX12_compares := fun w h => (List.mem_cons_of_mem _ (List.mem_append_right _ h))
theorem mX12_compares_0_1 : Cond.fieldLink RX12 182 "HissHornModel" "fault" "I" ∈ wsX12_compares := (List.mem_cons_of_mem _ (List.mem_append_left _ (List.mem_append_left _ (List.mem_of_getElem? (i := 0) rfl))))
theorem mX12_compares_0_2 : Cond.fieldLink RX12 173 "HissHornModel" "at" "I" ∈ wsX12_compares := (List.mem_cons_of_mem _ (List.mem_append_left _ (List.mem_append_left _ (List.mem_of_getElem? (i := 1) rfl))))
def GX12_compares_0_12 (y0 : Int32) (u : SX) : Option (Int32 × SX) := (if (u.1 7) = (-1) then ((fX12_look_0  u).bind fun q => match q with | (r4, u5) => ((fX12_isSign r4).bind fun r7 => (if r7 = 0 then ((fX12_fails_0  u5).bind fun q => match q with | (r21, u22) => (gd (isB r21) (some (r21, u22)))) else (lt (sI u5 6 ((u5.1 6) + 1)) fun u10 => ((rX12sumg 64 0  0 u10).bind fun q => match q with | (r12, u13) => (if r4 = 61 then (if y0 = r12 then (gd (isB 1) (some (1, u13))) else (gd (isB 0) (some (0, u13)))) else (if r4 = 60 then (if r12 ≤ y0 then (gd (isB 0) (some (0, u13))) else (gd (isB 1) (some (1, u13)))) else (if y0 ≤ r12 then (gd (isB 0) (some (0, u13))) else (gd (isB 1) (some (1, u13))))))))))) else (gd (isB 0) (some (0, u))))
def fX12_compares_0 (x1 : Int32) (x2 : Int32) (u : SX) : Option (Int32 × SX) := (if x1 = 0 then ((rX12sumg 64 0  0 u).bind fun q => match q with | (r1, u2) => (GX12_compares_0_12 r1 u2)) else (GX12_compares_0_12 x2 u))
set_option maxHeartbeats 4000000 in
set_option maxRecDepth 100000 in
theorem wGX12_compares_0_12 {p : Program} {l : Launch} {e : Env} {s : State} {m : MethodId} {args : Array Value} {below : List Frame} {meth : Method} {c : Code} {D : va_G} {cy : Nat → ClassId} {ad st : Nat → Nat} (C : Cx RX12 cX12_compares 6 (some .boolean) wsX12_compares p s m args meth c) (hK : Kx D [(cy 0, .int), (cy 1, .long), (cy 2, .boolean), (cy 3, .byte), (cy 4, .object "HissHorn$Text")] st s) (hJ : JM ad) {r : Int32} {u' : SX}   (y0 : Int32) (u : SX) (H : Heap) (locs : List Loc) (ls : Array Slot) (h : GX12_compares_0_12 y0 u = some (r, u')) (hP : va_P D vwCl (VM cy ad st u) H) (hS : va_S (Ax (AM ad) s.heap.size) s.heap H locs) (hl : lv_has ls 6 [(0, .ref (ad 0))]) : W p l e rmX12_compares_0 s m args below meth c H locs 0 0 (MQ below (Qi D (VM cy ad st) (AM ad) s.heap.size r u') args s 0 0 (Ax (AM ad) s.heap.size)) (F0 m 12 ls [.int y0]) := by
  unfold GX12_compares_0_12 at h
  refine lv_istore_n (lv' := [(3, .int y0), (0, .ref (ad 0))]) C.1 C.2.1 dX12_compares_12 rfl hl (by decide) rfl (fun ls hl => ?_)
  replace hl := lv_sub (l' := [(0, .ref (ad 0)), (3, .int y0)]) hl [1, 0] rfl
  refine lv_aload_n C.1 C.2.1 dX12_compares_13 rfl (lv_at hl 0 rfl) ?_
  refine gM_0_fault C hX12_compares_0_X12 hK hP mX12_compares_0_1 dX12_compares_14 ?_
  refine lv_iconst (v := (-1)) C.1 C.2.1 dX12_compares_17 (by decide) ?_
  refine lv_icmp_eq (tgt := 23) C.1 C.2.1 dX12_compares_18 (by decide) (fun c18 => ?_) (fun c18 => ?_)
  · rw [if_pos c18] at h
    refine lv_aload_n C.1 C.2.1 dX12_compares_23 rfl (lv_at hl 0 rfl) ?_
    obtain ⟨⟨r4, u5⟩, hc6, h⟩ := bd_some h
    try dsimp only at h
    refine cg_i (As := []) (rest := []) C hK hP hS (metX12_look_0 l D cy ad st hJ _  hc6) (cwV 0 C.2.2.2.2.2.1 gX12_compares_X12_look rfl rfl rfl (by decide +kernel) ⟨(Nat.le_of_ble_eq_true rfl), (Nat.le_of_ble_eq_true rfl)⟩) 0 12 rfl rfl rfl hl.1 rfl (Nat.le_of_ble_eq_true rfl) dX12_compares_24 ⟨Nat.zero_le _, Nat.zero_le _⟩ (fun H locs hP hS => ?_)
    refine lv_istore (lv' := [(4, .int r4), (0, .ref (ad 0)), (3, .int y0)]) C.1 C.2.1 dX12_compares_27 hl (by decide) rfl (fun ls hl => ?_)
    replace hl := lv_sub (l' := [(0, .ref (ad 0)), (3, .int y0), (4, .int r4)]) hl [1, 2, 0] rfl
    refine lv_iload C.1 C.2.1 dX12_compares_29 (lv_at hl 2 rfl) ?_
    obtain ⟨r7, hc9, h⟩ := bd_some h
    refine cs_i (As := [.int r4]) (rest := []) C hK hP hS (metX12_isSign l D cy st _ r4 hc9) (va_cwS 1 C.2.2.2.2.2.1 gX12_compares_X12_isSign rfl rfl rfl (by decide +kernel) ⟨(Nat.le_of_ble_eq_true rfl), (Nat.le_of_ble_eq_true rfl)⟩) rfl hl.1 rfl (Nat.le_of_ble_eq_true rfl) dX12_compares_31 ⟨Nat.zero_le _, Nat.zero_le _⟩ (fun H locs hP hS => ?_)
    refine lv_if_ne (tgt := 42) C.1 C.2.1 dX12_compares_34 (by decide) (fun c34 => ?_) (fun c34 => ?_)
    · rw [if_neg c34] at h
      refine lv_aload_n C.1 C.2.1 dX12_compares_42 rfl (lv_at hl 0 rfl) ?_
      refine lv_dup C.1 C.2.1 dX12_compares_43 rfl ?_
      refine gM_0_at C hX12_compares_0_X12 hK hP mX12_compares_0_2 dX12_compares_44 ?_
      refine lv_iconst (v := 1) C.1 C.2.1 dX12_compares_47 (by decide) ?_
      refine lv_iadd C.1 C.2.1 dX12_compares_48 ?_
      refine pM_0_at C hX12_compares_0_X12 hK hP hJ hS mX12_compares_0_2 dX12_compares_49 (fun H locs hP hS => ?_)
      obtain ⟨u10, hu11, h⟩ := lt_some h
      rw [← hu11] at hP
      refine lv_aload_n C.1 C.2.1 dX12_compares_52 rfl (lv_at hl 0 rfl) ?_
      obtain ⟨⟨r12, u13⟩, hc14, h⟩ := bd_some h
      try dsimp only at h
      refine cg_i (As := []) (rest := []) C hK hP hS ((hRX12sumg_all l D cy ad st hJ 64).1 _  _ _ _ hc14) (cwV 0 C.2.2.2.2.2.1 gX12_compares_X12_sum rfl rfl rfl (by decide +kernel) ⟨(Nat.le_of_ble_eq_true rfl), (Nat.le_of_ble_eq_true rfl)⟩) 0 12 rfl rfl rfl hl.1 rfl (Nat.le_of_ble_eq_true rfl) dX12_compares_53 ⟨Nat.zero_le _, Nat.zero_le _⟩ (fun H locs hP hS => ?_)
      refine lv_istore (lv' := [(5, .int r12), (0, .ref (ad 0)), (3, .int y0), (4, .int r4)]) C.1 C.2.1 dX12_compares_56 hl (by decide) rfl (fun ls hl => ?_)
      replace hl := lv_sub (l' := [(0, .ref (ad 0)), (3, .int y0), (4, .int r4), (5, .int r12)]) hl [1, 2, 3, 0] rfl
      refine lv_iload C.1 C.2.1 dX12_compares_58 (lv_at hl 2 rfl) ?_
      refine lv_bipush (v := 61) C.1 C.2.1 dX12_compares_60 (by decide) ?_
      refine lv_icmp_ne (tgt := 79) C.1 C.2.1 dX12_compares_62 (by decide) (fun c62 => ?_) (fun c62 => ?_)
      · rw [if_neg c62] at h
        refine lv_iload C.1 C.2.1 dX12_compares_79 (lv_at hl 2 rfl) ?_
        refine lv_bipush (v := 60) C.1 C.2.1 dX12_compares_81 (by decide) ?_
        refine lv_icmp_ne (tgt := 100) C.1 C.2.1 dX12_compares_83 (by decide) (fun c83 => ?_) (fun c83 => ?_)
        · rw [if_neg c83] at h
          refine lv_iload_n C.1 C.2.1 dX12_compares_100 rfl (lv_at hl 1 rfl) ?_
          refine lv_iload C.1 C.2.1 dX12_compares_101 (lv_at hl 3 rfl) ?_
          refine lv_icmp_le (tgt := 110) C.1 C.2.1 dX12_compares_103 (by decide) (fun c103 => ?_) (fun c103 => ?_)
          · rw [if_pos c103] at h
            refine lv_iconst (v := 0) C.1 C.2.1 dX12_compares_110 (by decide) ?_
            obtain ⟨hg15, h⟩ := gd_some h
            cases h
            exact rt_z hg15 C hP hS dX12_compares_111
          · rw [if_neg c103] at h
            refine lv_iconst (v := 1) C.1 C.2.1 dX12_compares_106 (by decide) ?_
            refine lv_goto (tgt := 111) C.1 C.2.1 dX12_compares_107 (by decide) ?_
            obtain ⟨hg16, h⟩ := gd_some h
            cases h
            exact rt_z hg16 C hP hS dX12_compares_111
        · rw [if_pos c83] at h
          refine lv_iload_n C.1 C.2.1 dX12_compares_86 rfl (lv_at hl 1 rfl) ?_
          refine lv_iload C.1 C.2.1 dX12_compares_87 (lv_at hl 3 rfl) ?_
          refine lv_icmp_ge (tgt := 96) C.1 C.2.1 dX12_compares_89 (by decide) (fun c89 => ?_) (fun c89 => ?_)
          · rw [if_pos c89] at h
            refine lv_iconst (v := 0) C.1 C.2.1 dX12_compares_96 (by decide) ?_
            refine lv_goto (tgt := 111) C.1 C.2.1 dX12_compares_97 (by decide) ?_
            obtain ⟨hg17, h⟩ := gd_some h
            cases h
            exact rt_z hg17 C hP hS dX12_compares_111
          · rw [if_neg c89] at h
            refine lv_iconst (v := 1) C.1 C.2.1 dX12_compares_92 (by decide) ?_
            refine lv_goto (tgt := 111) C.1 C.2.1 dX12_compares_93 (by decide) ?_
            obtain ⟨hg18, h⟩ := gd_some h
            cases h
            exact rt_z hg18 C hP hS dX12_compares_111
      · rw [if_pos c62] at h
        refine lv_iload_n C.1 C.2.1 dX12_compares_65 rfl (lv_at hl 1 rfl) ?_
        refine lv_iload C.1 C.2.1 dX12_compares_66 (lv_at hl 3 rfl) ?_
        refine lv_icmp_ne (tgt := 75) C.1 C.2.1 dX12_compares_68 (by decide) (fun c68 => ?_) (fun c68 => ?_)
        · rw [if_neg c68] at h
          refine lv_iconst (v := 0) C.1 C.2.1 dX12_compares_75 (by decide) ?_
          refine lv_goto (tgt := 111) C.1 C.2.1 dX12_compares_76 (by decide) ?_
          obtain ⟨hg19, h⟩ := gd_some h
          cases h
          exact rt_z hg19 C hP hS dX12_compares_111
        · rw [if_pos c68] at h
          refine lv_iconst (v := 1) C.1 C.2.1 dX12_compares_71 (by decide) ?_
          refine lv_goto (tgt := 111) C.1 C.2.1 dX12_compares_72 (by decide) ?_
          obtain ⟨hg20, h⟩ := gd_some h
          cases h
          exact rt_z hg20 C hP hS dX12_compares_111
    · rw [if_pos c34] at h
      refine lv_aload_n C.1 C.2.1 dX12_compares_37 rfl (lv_at hl 0 rfl) ?_
      obtain ⟨⟨r21, u22⟩, hc23, h⟩ := bd_some h
      try dsimp only at h
      refine cg_i (As := []) (rest := []) C hK hP hS (metX12_fails_0 l D cy ad st hJ _  hc23) (cwV 0 C.2.2.2.2.2.1 gX12_compares_X12_fails rfl rfl rfl (by decide +kernel) ⟨(Nat.le_of_ble_eq_true rfl), (Nat.le_of_ble_eq_true rfl)⟩) 0 12 rfl rfl rfl hl.1 rfl (Nat.le_of_ble_eq_true rfl) dX12_compares_38 ⟨Nat.zero_le _, Nat.zero_le _⟩ (fun H locs hP hS => ?_)
      obtain ⟨hg24, h⟩ := gd_some h
      cases h
      exact rt_z hg24 C hP hS dX12_compares_41
  · rw [if_neg c18] at h
    refine lv_iconst (v := 0) C.1 C.2.1 dX12_compares_21 (by decide) ?_
    obtain ⟨hg25, h⟩ := gd_some h
    cases h
    exact rt_z hg25 C hP hS dX12_compares_22
set_option maxHeartbeats 4000000 in
set_option maxRecDepth 100000 in
theorem wX12_compares_0 {p : Program} {l : Launch} {e : Env} {s : State} {m : MethodId} {args : Array Value} {below : List Frame} {meth : Method} {c : Code} {D : va_G} {cy : Nat → ClassId} {ad st : Nat → Nat} (C : Cx RX12 cX12_compares 6 (some .boolean) wsX12_compares p s m args meth c) (hK : Kx D [(cy 0, .int), (cy 1, .long), (cy 2, .boolean), (cy 3, .byte), (cy 4, .object "HissHorn$Text")] st s) (hJ : JM ad) (x1 : Int32) (x2 : Int32) {u : SX} {r : Int32} {u' : SX} {H : Heap} {locs : List Loc} {ls : Array Slot} (h : fX12_compares_0 x1 x2 u = some (r, u')) (hP : va_P D vwCl (VM cy ad st u) H) (hS : va_S (Ax (AM ad) s.heap.size) s.heap H locs) (hl : lv_has ls 6 [(0, .ref (ad 0)), (1, .int x1), (2, .int x2)]) : W p l e rmX12_compares_0 s m args below meth c H locs 0 0 (MQ below (Qi D (VM cy ad st) (AM ad) s.heap.size r u') args s 0 0 (Ax (AM ad) s.heap.size)) (F0 m 0 ls []) := by
  unfold fX12_compares_0 at h
  refine lv_iload_n C.1 C.2.1 dX12_compares_0 rfl (lv_at hl 1 rfl) ?_
  refine lv_if_eq (tgt := 8) C.1 C.2.1 dX12_compares_1 (by decide) (fun c1 => ?_) (fun c1 => ?_)
  · rw [if_pos c1] at h
    refine lv_aload_n C.1 C.2.1 dX12_compares_8 rfl (lv_at hl 0 rfl) ?_
    obtain ⟨⟨r1, u2⟩, hc3, h⟩ := bd_some h
    try dsimp only at h
    refine cg_i (As := []) (rest := []) C hK hP hS ((hRX12sumg_all l D cy ad st hJ 64).1 _  _ _ _ hc3) (cwV 0 C.2.2.2.2.2.1 gX12_compares_X12_sum rfl rfl rfl (by decide +kernel) ⟨(Nat.le_of_ble_eq_true rfl), (Nat.le_of_ble_eq_true rfl)⟩) 0 12 rfl rfl rfl hl.1 rfl (Nat.le_of_ble_eq_true rfl) dX12_compares_9 ⟨Nat.zero_le _, Nat.zero_le _⟩ (fun H locs hP hS => ?_)
    exact wGX12_compares_0_12 C hK hJ _ _ _ _ _ h hP hS (lv_sub hl [0] rfl)
  · rw [if_neg c1] at h
    refine lv_iload_n C.1 C.2.1 dX12_compares_4 rfl (lv_at hl 2 rfl) ?_
    refine lv_goto (tgt := 12) C.1 C.2.1 dX12_compares_5 (by decide) ?_
    exact wGX12_compares_0_12 C hK hJ _ _ _ _ _ h hP hS (lv_sub hl [0] rfl)
theorem metX12_compares_0 (l : Launch) (D : va_G) (cy : Nat → ClassId) (ad st : Nat → Nat) (hJ : JM ad) (sz : Nat) (x1 : Int32) (x2 : Int32) {u : SX} {r : Int32} {u' : SX} (h : fX12_compares_0 x1 x2 u = some (r, u')) : Met l yX12_compares wsX12_compares rmX12_compares_0 (va_Pc [.ref (ad 0), .int x1, .int x2] (Px D [(cy 0, .int), (cy 1, .long), (cy 2, .boolean), (cy 3, .byte), (cy 4, .object "HissHorn$Text")] st (VM cy ad st) sz u)) (Qi D (VM cy ad st) (AM ad) sz r u') 0 0 (Ax (AM ad) sz) := by
  refine Met.ofW (cc := cX12_compares) (maxL := 6) (ret := (some .boolean)) (by decide) rfl ?_
  intro p e s m args below meth c s₁ B hml hv
  obtain ⟨rfl, hsz, hP, hK⟩ := hv
  subst hsz
  have C : Cx RX12 cX12_compares 6 (some .boolean) wsX12_compares p s m _ meth c := ⟨B.exec, B.bytes, hml, B.returns, findClass_of_methodNamed B.named, atoms_spec (ws := wsX12_compares) B.pre, B.notSynchronized⟩
  have hl := lv_entry ([.ref (ad 0), .int x1, .int x2]) (n := 6) (Nat.le_of_ble_eq_true rfl)
  rw [lg_entry_eq]
  exact wX12_compares_0 C hK hJ x1 x2 h hP va_S.rf hl

/-- room of a recursion by its depth -/
def rmX12conditiong (d : Nat) : Room := { frames := 68 + d, cells := 0, slots := 0, locals := 4186 + 64 * d }
theorem rmX12conditiong_f (d : Nat) : 68 ≤ (rmX12conditiong d).frames := Nat.le_add_right _ _
theorem rmX12conditiong_l (d : Nat) : 4186 ≤ (rmX12conditiong d).locals := Nat.le_add_right _ _
theorem rmX12conditiong_sf (d : Nat) : (rmX12conditiong d).frames + 1 ≤ (rmX12conditiong (d + 1)).frames := Nat.le_refl _
theorem rmX12conditiong_sl (d : Nat) {k : Nat} (h : k ≤ 64) : k + (rmX12conditiong d).locals ≤ (rmX12conditiong (d + 1)).locals := by show k + (4186 + 64 * d) ≤ 4186 + 64 * (d + 1); omega
def hRX12conditiong (l : Launch) (D : va_G) (cy : Nat → ClassId) (ad st : Nat → Nat) (rc : Nat → Int32 → Int32 → SX → Option (Int32 × SX)) (dd : Nat) : Prop := (∀ (sz : Nat) (x1 : Int32) (x2 : Int32) (u : SX) (r : Int32) (u' : SX), rc 0 x1 x2 u = some (r, u') → Met l yX12_condition wsX12_condition (rmX12conditiong dd) (va_Pc [.ref (ad 0), .int x1, .int x2] (Px D [(cy 0, .int), (cy 1, .long), (cy 2, .boolean), (cy 3, .byte), (cy 4, .object "HissHorn$Text")] st (VM cy ad st) sz u)) (Qi D (VM cy ad st) (AM ad) sz r u') 0 0 (Ax (AM ad) sz)) ∧ (∀ (sz : Nat) (x1 : Int32) (x2 : Int32) (u : SX) (r : Int32) (u' : SX), rc 1 x1 x2 u = some (r, u') → Met l yX12_part wsX12_part (rmX12conditiong dd) (va_Pc [.ref (ad 0), .int x1, .int x2] (Px D [(cy 0, .int), (cy 1, .long), (cy 2, .boolean), (cy 3, .byte), (cy 4, .object "HissHorn$Text")] st (VM cy ad st) sz u)) (Qi D (VM cy ad st) (AM ad) sz r u') 0 0 (Ax (AM ad) sz)) ∧ (∀ (sz : Nat)  (u : SX) (r : Int32) (u' : SX), rc 2  0 0 u = some (r, u') → Met l yX12_unit wsX12_unit (rmX12conditiong dd) (va_Pc [.ref (ad 0)] (Px D [(cy 0, .int), (cy 1, .long), (cy 2, .boolean), (cy 3, .byte), (cy 4, .object "HissHorn$Text")] st (VM cy ad st) sz u)) (Qi D (VM cy ad st) (AM ad) sz r u') 0 0 (Ax (AM ad) sz))

theorem dX12_condition_56 : decode cX12_condition 56 = .ok (.istore_n 3, 1) := by decide +kernel
theorem dX12_condition_57 : decode cX12_condition 57 = .ok (.goto (-50), 3) := by decide +kernel
theorem dX12_condition_51 : decode cX12_condition 51 = .ok (.iconst 1, 1) := by decide +kernel
theorem dX12_condition_52 : decode cX12_condition 52 = .ok (.goto 4, 3) := by decide +kernel
theorem dX12_condition_7 : decode cX12_condition 7 = .ok (.aload_n 0, 1) := by decide +kernel
theorem dX12_condition_8 : decode cX12_condition 8 = .ok (.getfield 182, 3) := by decide +kernel
theorem dX12_condition_11 : decode cX12_condition 11 = .ok (.iconst (-1), 1) := by decide +kernel
theorem dX12_condition_12 : decode cX12_condition 12 = .ok (.if_icmp .ne 48, 3) := by decide +kernel
theorem dX12_condition_60 : decode cX12_condition 60 = .ok (.iload_n 3, 1) := by decide +kernel
theorem dX12_condition_61 : decode cX12_condition 61 = .ok (.ireturn, 1) := by decide +kernel
theorem dX12_condition_15 : decode cX12_condition 15 = .ok (.aload_n 0, 1) := by decide +kernel
set_option maxRecDepth 20000 in
theorem ggX12_condition_X12_look : GoodIn wsX12_condition wsX12_look := goodIn_r _ [10, 2, 11, 12, 13, 160, 161, 162, 163, 164, 165, 166, 167, 168, 169, 170, 171, 172, 173, 174, 175, 176, 177, 178, 179, 180, 181, 182, 183, 184, 185, 186, 187, 188, 189, 190, 191, 192, 193, 194, 195, 196, 197, 198, 199, 200, 201, 202, 203, 204, 205, 206, 207, 208, 209, 210, 211, 212, 213, 214, 215, 216, 217, 218, 219, 220, 221, 222, 223, 224, 225, 226, 227, 228] (by decide +kernel) (by decide +kernel)
set_option maxRecDepth 20000 in
theorem gX12_condition_X12_look : GoodIn wsX12_condition (wsV RX12 192 RX12 yX12_look wsX12_look) := goodIn_app (goodIn_of _ (by decide +kernel)) ggX12_condition_X12_look
theorem dX12_condition_16 : decode cX12_condition 16 = .ok (.invokevirtual 192, 3) := by decide +kernel
theorem dX12_condition_19 : decode cX12_condition 19 = .ok (.bipush 124, 2) := by decide +kernel
theorem dX12_condition_21 : decode cX12_condition 21 = .ok (.if_icmp .ne 39, 3) := by decide +kernel
theorem dX12_condition_24 : decode cX12_condition 24 = .ok (.aload_n 0, 1) := by decide +kernel
theorem dX12_condition_25 : decode cX12_condition 25 = .ok (.dup, 1) := by decide +kernel
theorem dX12_condition_26 : decode cX12_condition 26 = .ok (.getfield 173, 3) := by decide +kernel
theorem dX12_condition_29 : decode cX12_condition 29 = .ok (.iconst 1, 1) := by decide +kernel
theorem dX12_condition_30 : decode cX12_condition 30 = .ok (.iadd, 1) := by decide +kernel
theorem dX12_condition_31 : decode cX12_condition 31 = .ok (.putfield 173, 3) := by decide +kernel
theorem dX12_condition_34 : decode cX12_condition 34 = .ok (.aload_n 0, 1) := by decide +kernel
theorem dX12_condition_35 : decode cX12_condition 35 = .ok (.iconst 0, 1) := by decide +kernel
theorem dX12_condition_36 : decode cX12_condition 36 = .ok (.iconst 0, 1) := by decide +kernel
set_option maxRecDepth 20000 in
theorem ggX12_condition_X12_part : GoodIn wsX12_condition wsX12_part := goodIn_r _ [14, 1, 2, 15, 16, 17, 6, 18, 19, 20, 21, 22, 23, 24, 25, 7, 8, 9, 10, 11, 12, 13, 26, 27, 28, 29, 30, 31, 32, 33, 34, 35, 36, 37, 38, 39, 40, 41, 42, 43, 44, 45, 46, 47, 48, 49, 50, 51, 52, 53, 54, 55, 56, 57, 58, 59, 60, 61, 62, 63, 64, 65, 66, 67, 68, 69, 70, 71, 72, 73, 74, 75, 76, 77, 78, 79, 80, 81, 82, 83, 84, 85, 86, 87, 88, 89, 90, 91, 92, 93, 94, 95, 96, 97, 98, 99, 100, 101, 102, 103, 104, 105, 106, 107, 108, 109, 110, 111, 112, 113, 114, 115, 116, 117, 118, 119, 120, 121, 122, 123, 124, 125, 126, 127, 128, 129, 130, 131, 132, 133, 134, 135, 136, 137, 138, 139, 140, 141, 142, 143, 144, 145, 146, 147, 148, 149, 150, 151, 152, 153, 154, 155, 0, 3, 4, 5, 156, 157, 158, 159, 160, 161, 162, 163, 164, 165, 166, 167, 168, 169, 170, 171, 172, 173, 174, 175, 176, 177, 178, 179, 180, 181, 182, 183, 184, 185, 186, 187, 188, 189, 190, 191, 192, 193, 194, 195, 196, 197, 198, 199, 200, 201, 202, 203, 204, 205, 206, 207, 208, 209, 210, 211, 212, 213, 214, 215, 216, 217, 218, 219, 220, 221, 222, 223, 224, 225, 226, 227, 228] (by decide +kernel) (by decide +kernel)
set_option maxRecDepth 20000 in
theorem gX12_condition_X12_part : GoodIn wsX12_condition (wsV RX12 250 RX12 yX12_part wsX12_part) := goodIn_app (goodIn_of _ (by decide +kernel)) ggX12_condition_X12_part
theorem dX12_condition_37 : decode cX12_condition 37 = .ok (.invokevirtual 250, 3) := by decide +kernel
theorem dX12_condition_40 : decode cX12_condition 40 = .ok (.istore 4, 2) := by decide +kernel
theorem dX12_condition_42 : decode cX12_condition 42 = .ok (.iload_n 3, 1) := by decide +kernel
theorem dX12_condition_43 : decode cX12_condition 43 = .ok (.ifCond .ne 8, 3) := by decide +kernel
theorem dX12_condition_46 : decode cX12_condition 46 = .ok (.iload 4, 2) := by decide +kernel
theorem dX12_condition_48 : decode cX12_condition 48 = .ok (.ifCond .eq 7, 3) := by decide +kernel
theorem dX12_condition_55 : decode cX12_condition 55 = .ok (.iconst 0, 1) := by decide +kernel
theorem dX12_condition_0 : decode cX12_condition 0 = .ok (.aload_n 0, 1) := by decide +kernel
theorem dX12_condition_1 : decode cX12_condition 1 = .ok (.iload_n 1, 1) := by decide +kernel
theorem dX12_condition_2 : decode cX12_condition 2 = .ok (.iload_n 2, 1) := by decide +kernel
theorem dX12_condition_3 : decode cX12_condition 3 = .ok (.invokevirtual 250, 3) := by decide +kernel
theorem dX12_condition_6 : decode cX12_condition 6 = .ok (.istore_n 3, 1) := by decide +kernel
/-- HissHornModel.condition(ZI)Z of cell 0 -/
theorem hX12_condition_0_X12 : ∀ w ∈ u_ws RX12 TX12 69, w ∈ wsX12_condition := fun w h => (List.mem_cons_of_mem _ (List.mem_append_right _ h))
theorem mX12_condition_0_1 : Cond.fieldLink RX12 182 "HissHornModel" "fault" "I" ∈ wsX12_condition := (List.mem_cons_of_mem _ (List.mem_append_left _ (List.mem_append_left _ (List.mem_of_getElem? (i := 0) rfl))))
theorem mX12_condition_0_2 : Cond.fieldLink RX12 173 "HissHornModel" "at" "I" ∈ wsX12_condition := (List.mem_cons_of_mem _ (List.mem_append_left _ (List.mem_append_left _ (List.mem_of_getElem? (i := 1) rfl))))
def GX12_condition_0_56 (rc : Nat → Int32 → Int32 → SX → Option (Int32 × SX)) (k7 : Int32 → SX → Option (Int32 × SX)) (y0 : Int32) (u : SX) : Option (Int32 × SX) := (k7 y0 u)
def GX12_condition_0_51 (rc : Nat → Int32 → Int32 → SX → Option (Int32 × SX)) (k7 : Int32 → SX → Option (Int32 × SX))  (u : SX) : Option (Int32 × SX) := (GX12_condition_0_56 rc k7 1 u)
def LX12_condition_0_7 (rc : Nat → Int32 → Int32 → SX → Option (Int32 × SX))  : Nat → Int32 → SX → Option (Int32 × SX)
  | 0, _, _ => none
  | n + 1, z3, u => (if (u.1 7) = (-1) then ((fX12_look_0  u).bind fun q => match q with | (r5, u6) => (if r5 = 124 then (lt (sI u6 6 ((u6.1 6) + 1)) fun u9 => ((rc 1 0 0 u9).bind fun q => match q with | (r11, u12) => (if z3 = 0 then (if r11 = 0 then (GX12_condition_0_56 rc (LX12_condition_0_7 rc n) 0 u12) else (GX12_condition_0_51 rc (LX12_condition_0_7 rc n) u12)) else (GX12_condition_0_51 rc (LX12_condition_0_7 rc n) u12)))) else (gd (isB z3) (some (z3, u6))))) else (gd (isB z3) (some (z3, u))))
def fX12_condition_0 (rc : Nat → Int32 → Int32 → SX → Option (Int32 × SX)) (x1 : Int32) (x2 : Int32) (u : SX) : Option (Int32 × SX) := ((rc 1 x1 x2 u).bind fun q => match q with | (r1, u2) => (LX12_condition_0_7 rc  5000 r1 u2))
set_option maxHeartbeats 4000000 in
set_option maxRecDepth 100000 in
theorem wGX12_condition_0_56 {p : Program} {l : Launch} {e : Env} {s : State} {m : MethodId} {args : Array Value} {below : List Frame} {meth : Method} {c : Code} {D : va_G} {cy : Nat → ClassId} {ad st : Nat → Nat} (C : Cx RX12 cX12_condition 5 (some .boolean) wsX12_condition p s m args meth c) (hK : Kx D [(cy 0, .int), (cy 1, .long), (cy 2, .boolean), (cy 3, .byte), (cy 4, .object "HissHorn$Text")] st s) (hJ : JM ad) {rc : Nat → Int32 → Int32 → SX → Option (Int32 × SX)} {dd : Nat} (hrc : hRX12conditiong l D cy ad st rc dd) {r : Int32} {u' : SX} {k7 : Int32 → SX → Option (Int32 × SX)} (hk7 : ∀ (z3 : Int32) (u : SX) (H : Heap) (locs : List Loc) (ls : Array Slot), k7 z3 u = some (r, u') → va_P D vwCl (VM cy ad st u) H → va_S (Ax (AM ad) s.heap.size) s.heap H locs → lv_has ls 5 [(0, .ref (ad 0)), (3, .int z3)] → W p l e (rmX12conditiong (dd + 1)) s m args below meth c H locs 0 0 (MQ below (Qi D (VM cy ad st) (AM ad) s.heap.size r u') args s 0 0 (Ax (AM ad) s.heap.size)) (F0 m 7 ls [])) (y0 : Int32) (u : SX) (H : Heap) (locs : List Loc) (ls : Array Slot) (h : GX12_condition_0_56 rc k7 y0 u = some (r, u')) (hP : va_P D vwCl (VM cy ad st u) H) (hS : va_S (Ax (AM ad) s.heap.size) s.heap H locs) (hl : lv_has ls 5 [(0, .ref (ad 0))]) : W p l e (rmX12conditiong (dd + 1)) s m args below meth c H locs 0 0 (MQ below (Qi D (VM cy ad st) (AM ad) s.heap.size r u') args s 0 0 (Ax (AM ad) s.heap.size)) (F0 m 56 ls [.int y0]) := by
  unfold GX12_condition_0_56 at h
  refine lv_istore_n (lv' := [(3, .int y0), (0, .ref (ad 0))]) C.1 C.2.1 dX12_condition_56 rfl hl (by decide) rfl (fun ls hl => ?_)
  replace hl := lv_sub (l' := [(0, .ref (ad 0)), (3, .int y0)]) hl [1, 0] rfl
  refine lv_goto (tgt := 7) C.1 C.2.1 dX12_condition_57 (by decide) ?_
  exact hk7 _ _ _ _ _ h hP hS hl
set_option maxHeartbeats 4000000 in
set_option maxRecDepth 100000 in
theorem wGX12_condition_0_51 {p : Program} {l : Launch} {e : Env} {s : State} {m : MethodId} {args : Array Value} {below : List Frame} {meth : Method} {c : Code} {D : va_G} {cy : Nat → ClassId} {ad st : Nat → Nat} (C : Cx RX12 cX12_condition 5 (some .boolean) wsX12_condition p s m args meth c) (hK : Kx D [(cy 0, .int), (cy 1, .long), (cy 2, .boolean), (cy 3, .byte), (cy 4, .object "HissHorn$Text")] st s) (hJ : JM ad) {rc : Nat → Int32 → Int32 → SX → Option (Int32 × SX)} {dd : Nat} (hrc : hRX12conditiong l D cy ad st rc dd) {r : Int32} {u' : SX} {k7 : Int32 → SX → Option (Int32 × SX)} (hk7 : ∀ (z3 : Int32) (u : SX) (H : Heap) (locs : List Loc) (ls : Array Slot), k7 z3 u = some (r, u') → va_P D vwCl (VM cy ad st u) H → va_S (Ax (AM ad) s.heap.size) s.heap H locs → lv_has ls 5 [(0, .ref (ad 0)), (3, .int z3)] → W p l e (rmX12conditiong (dd + 1)) s m args below meth c H locs 0 0 (MQ below (Qi D (VM cy ad st) (AM ad) s.heap.size r u') args s 0 0 (Ax (AM ad) s.heap.size)) (F0 m 7 ls [])) (u : SX) (H : Heap) (locs : List Loc) (ls : Array Slot) (h : GX12_condition_0_51 rc k7  u = some (r, u')) (hP : va_P D vwCl (VM cy ad st u) H) (hS : va_S (Ax (AM ad) s.heap.size) s.heap H locs) (hl : lv_has ls 5 [(0, .ref (ad 0))]) : W p l e (rmX12conditiong (dd + 1)) s m args below meth c H locs 0 0 (MQ below (Qi D (VM cy ad st) (AM ad) s.heap.size r u') args s 0 0 (Ax (AM ad) s.heap.size)) (F0 m 51 ls []) := by
  unfold GX12_condition_0_51 at h
  refine lv_iconst (v := 1) C.1 C.2.1 dX12_condition_51 (by decide) ?_
  refine lv_goto (tgt := 56) C.1 C.2.1 dX12_condition_52 (by decide) ?_
  exact wGX12_condition_0_56 C hK hJ hrc hk7 _ _ _ _ _ h hP hS hl
set_option maxHeartbeats 4000000 in
set_option maxRecDepth 100000 in
theorem wLX12_condition_0_7 {p : Program} {l : Launch} {e : Env} {s : State} {m : MethodId} {args : Array Value} {below : List Frame} {meth : Method} {c : Code} {D : va_G} {cy : Nat → ClassId} {ad st : Nat → Nat} (C : Cx RX12 cX12_condition 5 (some .boolean) wsX12_condition p s m args meth c) (hK : Kx D [(cy 0, .int), (cy 1, .long), (cy 2, .boolean), (cy 3, .byte), (cy 4, .object "HissHorn$Text")] st s) (hJ : JM ad) {rc : Nat → Int32 → Int32 → SX → Option (Int32 × SX)} {dd : Nat} (hrc : hRX12conditiong l D cy ad st rc dd) {r : Int32} {u' : SX}   : ∀ (n : Nat) (z3 : Int32) (u : SX) (H : Heap) (locs : List Loc) (ls : Array Slot), LX12_condition_0_7 rc  n z3 u = some (r, u') → va_P D vwCl (VM cy ad st u) H → va_S (Ax (AM ad) s.heap.size) s.heap H locs → lv_has ls 5 [(0, .ref (ad 0)), (3, .int z3)] → W p l e (rmX12conditiong (dd + 1)) s m args below meth c H locs 0 0 (MQ below (Qi D (VM cy ad st) (AM ad) s.heap.size r u') args s 0 0 (Ax (AM ad) s.heap.size)) (F0 m 7 ls []) := by
  intro n
  induction n with
  | zero =>
    intro z3 u H locs ls h
    exact absurd h (by intro q; cases q)
  | succ n ih =>
    intro z3 u H locs ls h hP hS hl
    rw [LX12_condition_0_7] at h
    refine lv_aload_n C.1 C.2.1 dX12_condition_7 rfl (lv_at hl 0 rfl) ?_
    refine gM_0_fault C hX12_condition_0_X12 hK hP mX12_condition_0_1 dX12_condition_8 ?_
    refine lv_iconst (v := (-1)) C.1 C.2.1 dX12_condition_11 (by decide) ?_
    refine lv_icmp_ne (tgt := 60) C.1 C.2.1 dX12_condition_12 (by decide) (fun c12 => ?_) (fun c12 => ?_)
    · rw [if_neg c12] at h
      refine lv_iload_n C.1 C.2.1 dX12_condition_60 rfl (lv_at hl 1 rfl) ?_
      obtain ⟨hg4, h⟩ := gd_some h
      cases h
      exact rt_z hg4 C hP hS dX12_condition_61
    · rw [if_pos c12] at h
      refine lv_aload_n C.1 C.2.1 dX12_condition_15 rfl (lv_at hl 0 rfl) ?_
      obtain ⟨⟨r5, u6⟩, hc7, h⟩ := bd_some h
      try dsimp only at h
      refine cg_i (As := []) (rest := []) C hK hP hS (metX12_look_0 l D cy ad st hJ _  hc7) (cwV 0 C.2.2.2.2.2.1 gX12_condition_X12_look rfl rfl rfl (by decide +kernel) ⟨(Nat.le_trans (m := 68) (Nat.le_of_ble_eq_true rfl) (rmX12conditiong_f _)), (Nat.le_trans (m := 4186) (Nat.le_of_ble_eq_true rfl) (rmX12conditiong_l _))⟩) 0 12 rfl rfl rfl hl.1 rfl (Nat.le_of_ble_eq_true rfl) dX12_condition_16 ⟨Nat.zero_le _, Nat.zero_le _⟩ (fun H locs hP hS => ?_)
      refine lv_bipush (v := 124) C.1 C.2.1 dX12_condition_19 (by decide) ?_
      refine lv_icmp_ne (tgt := 60) C.1 C.2.1 dX12_condition_21 (by decide) (fun c21 => ?_) (fun c21 => ?_)
      · rw [if_neg c21] at h
        refine lv_iload_n C.1 C.2.1 dX12_condition_60 rfl (lv_at hl 1 rfl) ?_
        obtain ⟨hg8, h⟩ := gd_some h
        cases h
        exact rt_z hg8 C hP hS dX12_condition_61
      · rw [if_pos c21] at h
        refine lv_aload_n C.1 C.2.1 dX12_condition_24 rfl (lv_at hl 0 rfl) ?_
        refine lv_dup C.1 C.2.1 dX12_condition_25 rfl ?_
        refine gM_0_at C hX12_condition_0_X12 hK hP mX12_condition_0_2 dX12_condition_26 ?_
        refine lv_iconst (v := 1) C.1 C.2.1 dX12_condition_29 (by decide) ?_
        refine lv_iadd C.1 C.2.1 dX12_condition_30 ?_
        refine pM_0_at C hX12_condition_0_X12 hK hP hJ hS mX12_condition_0_2 dX12_condition_31 (fun H locs hP hS => ?_)
        obtain ⟨u9, hu10, h⟩ := lt_some h
        rw [← hu10] at hP
        refine lv_aload_n C.1 C.2.1 dX12_condition_34 rfl (lv_at hl 0 rfl) ?_
        refine lv_iconst (v := 0) C.1 C.2.1 dX12_condition_35 (by decide) ?_
        refine lv_iconst (v := 0) C.1 C.2.1 dX12_condition_36 (by decide) ?_
        obtain ⟨⟨r11, u12⟩, hc13, h⟩ := bd_some h
        try dsimp only at h
        refine cg_i (As := [.int 0, .int 0]) (rest := []) C hK hP hS (hrc.2.1 _ 0 0 _ _ _ hc13) (cwV 2 C.2.2.2.2.2.1 gX12_condition_X12_part rfl rfl rfl (by decide +kernel) ⟨rmX12conditiong_sf dd, rmX12conditiong_sl dd (k := 8 + (5 + 11)) (Nat.le_of_ble_eq_true rfl)⟩) 0 12 rfl rfl rfl hl.1 rfl (Nat.le_of_ble_eq_true rfl) dX12_condition_37 ⟨Nat.zero_le _, Nat.zero_le _⟩ (fun H locs hP hS => ?_)
        refine lv_istore (lv' := [(4, .int r11), (0, .ref (ad 0)), (3, .int z3)]) C.1 C.2.1 dX12_condition_40 hl (by decide) rfl (fun ls hl => ?_)
        replace hl := lv_sub (l' := [(0, .ref (ad 0)), (3, .int z3), (4, .int r11)]) hl [1, 2, 0] rfl
        refine lv_iload_n C.1 C.2.1 dX12_condition_42 rfl (lv_at hl 1 rfl) ?_
        refine lv_if_ne (tgt := 51) C.1 C.2.1 dX12_condition_43 (by decide) (fun c43 => ?_) (fun c43 => ?_)
        · rw [if_neg c43] at h
          exact wGX12_condition_0_51 C hK hJ hrc ih _ _ _ _ h hP hS (lv_sub hl [0] rfl)
        · rw [if_pos c43] at h
          refine lv_iload C.1 C.2.1 dX12_condition_46 (lv_at hl 2 rfl) ?_
          refine lv_if_eq (tgt := 55) C.1 C.2.1 dX12_condition_48 (by decide) (fun c48 => ?_) (fun c48 => ?_)
          · rw [if_pos c48] at h
            refine lv_iconst (v := 0) C.1 C.2.1 dX12_condition_55 (by decide) ?_
            exact wGX12_condition_0_56 C hK hJ hrc ih _ _ _ _ _ h hP hS (lv_sub hl [0] rfl)
          · rw [if_neg c48] at h
            exact wGX12_condition_0_51 C hK hJ hrc ih _ _ _ _ h hP hS (lv_sub hl [0] rfl)
set_option maxHeartbeats 4000000 in
set_option maxRecDepth 100000 in
theorem wX12_condition_0 {p : Program} {l : Launch} {e : Env} {s : State} {m : MethodId} {args : Array Value} {below : List Frame} {meth : Method} {c : Code} {D : va_G} {cy : Nat → ClassId} {ad st : Nat → Nat} (C : Cx RX12 cX12_condition 5 (some .boolean) wsX12_condition p s m args meth c) (hK : Kx D [(cy 0, .int), (cy 1, .long), (cy 2, .boolean), (cy 3, .byte), (cy 4, .object "HissHorn$Text")] st s) (hJ : JM ad) {rc : Nat → Int32 → Int32 → SX → Option (Int32 × SX)} {dd : Nat} (hrc : hRX12conditiong l D cy ad st rc dd) (x1 : Int32) (x2 : Int32) {u : SX} {r : Int32} {u' : SX} {H : Heap} {locs : List Loc} {ls : Array Slot} (h : fX12_condition_0 rc x1 x2 u = some (r, u')) (hP : va_P D vwCl (VM cy ad st u) H) (hS : va_S (Ax (AM ad) s.heap.size) s.heap H locs) (hl : lv_has ls 5 [(0, .ref (ad 0)), (1, .int x1), (2, .int x2)]) : W p l e (rmX12conditiong (dd + 1)) s m args below meth c H locs 0 0 (MQ below (Qi D (VM cy ad st) (AM ad) s.heap.size r u') args s 0 0 (Ax (AM ad) s.heap.size)) (F0 m 0 ls []) := by
  unfold fX12_condition_0 at h
  refine lv_aload_n C.1 C.2.1 dX12_condition_0 rfl (lv_at hl 0 rfl) ?_
  refine lv_iload_n C.1 C.2.1 dX12_condition_1 rfl (lv_at hl 1 rfl) ?_
  refine lv_iload_n C.1 C.2.1 dX12_condition_2 rfl (lv_at hl 2 rfl) ?_
  obtain ⟨⟨r1, u2⟩, hc3, h⟩ := bd_some h
  try dsimp only at h
  refine cg_i (As := [.int x1, .int x2]) (rest := []) C hK hP hS (hrc.2.1 _ x1 x2 _ _ _ hc3) (cwV 2 C.2.2.2.2.2.1 gX12_condition_X12_part rfl rfl rfl (by decide +kernel) ⟨rmX12conditiong_sf dd, rmX12conditiong_sl dd (k := 8 + (5 + 11)) (Nat.le_of_ble_eq_true rfl)⟩) 0 12 rfl rfl rfl hl.1 rfl (Nat.le_of_ble_eq_true rfl) dX12_condition_3 ⟨Nat.zero_le _, Nat.zero_le _⟩ (fun H locs hP hS => ?_)
  refine lv_istore_n (lv' := [(3, .int r1), (0, .ref (ad 0)), (1, .int x1), (2, .int x2)]) C.1 C.2.1 dX12_condition_6 rfl hl (by decide) rfl (fun ls hl => ?_)
  replace hl := lv_sub (l' := [(0, .ref (ad 0)), (1, .int x1), (2, .int x2), (3, .int r1)]) hl [1, 2, 3, 0] rfl
  exact wLX12_condition_0_7 C hK hJ hrc  5000 _ _ _ _ _ h hP hS (lv_sub hl [0, 3] rfl)
theorem metX12_condition_0 (l : Launch) (D : va_G) (cy : Nat → ClassId) (ad st : Nat → Nat) (hJ : JM ad) {rc : Nat → Int32 → Int32 → SX → Option (Int32 × SX)} {dd : Nat} (hrc : hRX12conditiong l D cy ad st rc dd) (sz : Nat) (x1 : Int32) (x2 : Int32) {u : SX} {r : Int32} {u' : SX} (h : fX12_condition_0 rc x1 x2 u = some (r, u')) : Met l yX12_condition wsX12_condition (rmX12conditiong (dd + 1)) (va_Pc [.ref (ad 0), .int x1, .int x2] (Px D [(cy 0, .int), (cy 1, .long), (cy 2, .boolean), (cy 3, .byte), (cy 4, .object "HissHorn$Text")] st (VM cy ad st) sz u)) (Qi D (VM cy ad st) (AM ad) sz r u') 0 0 (Ax (AM ad) sz) := by
  refine Met.ofW (cc := cX12_condition) (maxL := 5) (ret := (some .boolean)) (by decide) rfl ?_
  intro p e s m args below meth c s₁ B hml hv
  obtain ⟨rfl, hsz, hP, hK⟩ := hv
  subst hsz
  have C : Cx RX12 cX12_condition 5 (some .boolean) wsX12_condition p s m _ meth c := ⟨B.exec, B.bytes, hml, B.returns, findClass_of_methodNamed B.named, atoms_spec (ws := wsX12_condition) B.pre, B.notSynchronized⟩
  have hl := lv_entry ([.ref (ad 0), .int x1, .int x2]) (n := 5) (Nat.le_of_ble_eq_true rfl)
  rw [lg_entry_eq]
  exact wX12_condition_0 C hK hJ hrc x1 x2 h hP va_S.rf hl

theorem dX12_part_65 : decode cX12_part 65 = .ok (.istore_n 3, 1) := by decide +kernel
theorem dX12_part_66 : decode cX12_part 66 = .ok (.goto (-48), 3) := by decide +kernel
theorem dX12_part_64 : decode cX12_part 64 = .ok (.iconst 0, 1) := by decide +kernel
theorem dX12_part_18 : decode cX12_part 18 = .ok (.aload_n 0, 1) := by decide +kernel
theorem dX12_part_19 : decode cX12_part 19 = .ok (.getfield 182, 3) := by decide +kernel
theorem dX12_part_22 : decode cX12_part 22 = .ok (.iconst (-1), 1) := by decide +kernel
theorem dX12_part_23 : decode cX12_part 23 = .ok (.if_icmp .ne 46, 3) := by decide +kernel
theorem dX12_part_69 : decode cX12_part 69 = .ok (.iload_n 3, 1) := by decide +kernel
theorem dX12_part_70 : decode cX12_part 70 = .ok (.ireturn, 1) := by decide +kernel
theorem dX12_part_26 : decode cX12_part 26 = .ok (.aload_n 0, 1) := by decide +kernel
set_option maxRecDepth 20000 in
theorem ggX12_part_X12_look : GoodIn wsX12_part wsX12_look := goodIn_r _ [18, 2, 19, 20, 21, 160, 161, 162, 163, 164, 165, 166, 167, 168, 169, 170, 171, 172, 173, 174, 175, 176, 177, 178, 179, 180, 181, 182, 183, 184, 185, 186, 187, 188, 189, 190, 191, 192, 193, 194, 195, 196, 197, 198, 199, 200, 201, 202, 203, 204, 205, 206, 207, 208, 209, 210, 211, 212, 213, 214, 215, 216, 217, 218, 219, 220, 221, 222, 223, 224, 225, 226, 227, 228] (by decide +kernel) (by decide +kernel)
set_option maxRecDepth 20000 in
theorem gX12_part_X12_look : GoodIn wsX12_part (wsV RX12 192 RX12 yX12_look wsX12_look) := goodIn_app (goodIn_of _ (by decide +kernel)) ggX12_part_X12_look
theorem dX12_part_27 : decode cX12_part 27 = .ok (.invokevirtual 192, 3) := by decide +kernel
theorem dX12_part_30 : decode cX12_part 30 = .ok (.bipush 38, 2) := by decide +kernel
theorem dX12_part_32 : decode cX12_part 32 = .ok (.if_icmp .ne 37, 3) := by decide +kernel
theorem dX12_part_35 : decode cX12_part 35 = .ok (.aload_n 0, 1) := by decide +kernel
theorem dX12_part_36 : decode cX12_part 36 = .ok (.dup, 1) := by decide +kernel
theorem dX12_part_37 : decode cX12_part 37 = .ok (.getfield 173, 3) := by decide +kernel
theorem dX12_part_40 : decode cX12_part 40 = .ok (.iconst 1, 1) := by decide +kernel
theorem dX12_part_41 : decode cX12_part 41 = .ok (.iadd, 1) := by decide +kernel
theorem dX12_part_42 : decode cX12_part 42 = .ok (.putfield 173, 3) := by decide +kernel
theorem dX12_part_45 : decode cX12_part 45 = .ok (.aload_n 0, 1) := by decide +kernel
set_option maxRecDepth 20000 in
theorem ggX12_part_X12_unit : GoodIn wsX12_part wsX12_unit := goodIn_r _ [156, 37, 15, 16, 17, 6, 18, 2, 19, 20, 21, 126, 127, 128, 129, 130, 131, 132, 133, 1, 149, 150, 151, 157, 158, 159, 134, 135, 136, 137, 3, 4, 5, 7, 8, 9, 10, 11, 12, 13, 14, 22, 23, 24, 25, 26, 27, 28, 29, 30, 31, 32, 33, 34, 35, 36, 38, 39, 40, 41, 42, 43, 44, 45, 46, 47, 48, 49, 50, 51, 52, 53, 54, 55, 56, 57, 58, 59, 60, 61, 62, 63, 64, 65, 66, 67, 68, 69, 70, 71, 72, 73, 74, 75, 76, 77, 78, 79, 80, 81, 82, 83, 84, 85, 86, 87, 88, 89, 90, 91, 92, 93, 94, 95, 96, 97, 98, 99, 100, 101, 102, 103, 104, 105, 106, 107, 108, 109, 110, 111, 112, 113, 114, 115, 116, 117, 118, 119, 120, 121, 122, 123, 124, 125, 138, 139, 140, 141, 142, 143, 144, 145, 146, 147, 148, 152, 153, 154, 155, 0, 160, 161, 162, 163, 164, 165, 166, 167, 168, 169, 170, 171, 172, 173, 174, 175, 176, 177, 178, 179, 180, 181, 182, 183, 184, 185, 186, 187, 188, 189, 190, 191, 192, 193, 194, 195, 196, 197, 198, 199, 200, 201, 202, 203, 204, 205, 206, 207, 208, 209, 210, 211, 212, 213, 214, 215, 216, 217, 218, 219, 220, 221, 222, 223, 224, 225, 226, 227, 228] (by decide +kernel) (by decide +kernel)
set_option maxRecDepth 20000 in
theorem gX12_part_X12_unit : GoodIn wsX12_part (wsV RX12 240 RX12 yX12_unit wsX12_unit) := goodIn_app (goodIn_of _ (by decide +kernel)) ggX12_part_X12_unit
theorem dX12_part_46 : decode cX12_part 46 = .ok (.invokevirtual 240, 3) := by decide +kernel
theorem dX12_part_49 : decode cX12_part 49 = .ok (.istore 4, 2) := by decide +kernel
theorem dX12_part_51 : decode cX12_part 51 = .ok (.iload_n 3, 1) := by decide +kernel
theorem dX12_part_52 : decode cX12_part 52 = .ok (.ifCond .eq 12, 3) := by decide +kernel
theorem dX12_part_55 : decode cX12_part 55 = .ok (.iload 4, 2) := by decide +kernel
theorem dX12_part_57 : decode cX12_part 57 = .ok (.ifCond .eq 7, 3) := by decide +kernel
theorem dX12_part_60 : decode cX12_part 60 = .ok (.iconst 1, 1) := by decide +kernel
theorem dX12_part_61 : decode cX12_part 61 = .ok (.goto 4, 3) := by decide +kernel
theorem dX12_part_17 : decode cX12_part 17 = .ok (.istore_n 3, 1) := by decide +kernel
theorem dX12_part_0 : decode cX12_part 0 = .ok (.iload_n 1, 1) := by decide +kernel
theorem dX12_part_1 : decode cX12_part 1 = .ok (.ifCond .eq 12, 3) := by decide +kernel
theorem dX12_part_13 : decode cX12_part 13 = .ok (.aload_n 0, 1) := by decide +kernel
theorem dX12_part_14 : decode cX12_part 14 = .ok (.invokevirtual 240, 3) := by decide +kernel
theorem dX12_part_4 : decode cX12_part 4 = .ok (.aload_n 0, 1) := by decide +kernel
theorem dX12_part_5 : decode cX12_part 5 = .ok (.iconst 1, 1) := by decide +kernel
theorem dX12_part_6 : decode cX12_part 6 = .ok (.iload_n 2, 1) := by decide +kernel
set_option maxRecDepth 20000 in
theorem ggX12_part_X12_compares : GoodIn wsX12_part wsX12_compares := goodIn_r _ [7, 1, 2, 8, 9, 10, 6, 11, 12, 13, 14, 15, 16, 17, 18, 19, 20, 21, 22, 23, 24, 25, 26, 27, 28, 29, 30, 31, 32, 33, 34, 35, 36, 37, 38, 39, 40, 41, 42, 43, 44, 45, 46, 47, 48, 49, 50, 51, 52, 53, 54, 55, 56, 57, 58, 59, 60, 61, 62, 63, 64, 65, 66, 67, 68, 69, 70, 71, 72, 73, 74, 75, 76, 77, 78, 79, 80, 81, 82, 83, 84, 85, 86, 87, 88, 89, 90, 91, 92, 93, 94, 95, 96, 97, 98, 99, 100, 101, 102, 103, 104, 105, 106, 107, 108, 109, 110, 111, 112, 113, 114, 115, 116, 117, 118, 119, 120, 121, 122, 123, 124, 125, 126, 127, 128, 129, 130, 131, 132, 133, 134, 135, 136, 137, 138, 139, 140, 141, 142, 143, 144, 145, 146, 147, 148, 160, 161, 162, 163, 164, 165, 166, 167, 168, 169, 170, 171, 172, 173, 174, 175, 176, 177, 178, 179, 180, 181, 182, 183, 184, 185, 186, 187, 188, 189, 190, 191, 192, 193, 194, 195, 196, 197, 198, 199, 200, 201, 202, 203, 204, 205, 206, 207, 208, 209, 210, 211, 212, 213, 214, 215, 216, 217, 218, 219, 220, 221, 222, 223, 224, 225, 226, 227, 228] (by decide +kernel) (by decide +kernel)
set_option maxRecDepth 20000 in
theorem gX12_part_X12_compares : GoodIn wsX12_part (wsV RX12 247 RX12 yX12_compares wsX12_compares) := goodIn_app (goodIn_of _ (by decide +kernel)) ggX12_part_X12_compares
theorem dX12_part_7 : decode cX12_part 7 = .ok (.invokevirtual 247, 3) := by decide +kernel
theorem dX12_part_10 : decode cX12_part 10 = .ok (.goto 7, 3) := by decide +kernel
/-- HissHornModel.part(ZI)Z of cell 0 -/
theorem hX12_part_0_X12 : ∀ w ∈ u_ws RX12 TX12 69, w ∈ wsX12_part := fun w h => (List.mem_cons_of_mem _ (List.mem_append_right _ h))
theorem mX12_part_0_1 : Cond.fieldLink RX12 182 "HissHornModel" "fault" "I" ∈ wsX12_part := (List.mem_cons_of_mem _ (List.mem_append_left _ (List.mem_append_left _ (List.mem_of_getElem? (i := 0) rfl))))
theorem mX12_part_0_2 : Cond.fieldLink RX12 173 "HissHornModel" "at" "I" ∈ wsX12_part := (List.mem_cons_of_mem _ (List.mem_append_left _ (List.mem_append_left _ (List.mem_of_getElem? (i := 1) rfl))))
def GX12_part_0_65 (rc : Nat → Int32 → Int32 → SX → Option (Int32 × SX)) (k18 : Int32 → SX → Option (Int32 × SX)) (y0 : Int32) (u : SX) : Option (Int32 × SX) := (k18 y0 u)
def GX12_part_0_64 (rc : Nat → Int32 → Int32 → SX → Option (Int32 × SX)) (k18 : Int32 → SX → Option (Int32 × SX))  (u : SX) : Option (Int32 × SX) := (GX12_part_0_65 rc k18 0 u)
def LX12_part_0_18 (rc : Nat → Int32 → Int32 → SX → Option (Int32 × SX))  : Nat → Int32 → SX → Option (Int32 × SX)
  | 0, _, _ => none
  | n + 1, z3, u => (if (u.1 7) = (-1) then ((fX12_look_0  u).bind fun q => match q with | (r5, u6) => (if r5 = 38 then (lt (sI u6 6 ((u6.1 6) + 1)) fun u9 => ((rc 2  0 0 u9).bind fun q => match q with | (r11, u12) => (if z3 = 0 then (GX12_part_0_64 rc (LX12_part_0_18 rc n) u12) else (if r11 = 0 then (GX12_part_0_64 rc (LX12_part_0_18 rc n) u12) else (GX12_part_0_65 rc (LX12_part_0_18 rc n) 1 u12))))) else (gd (isB z3) (some (z3, u6))))) else (gd (isB z3) (some (z3, u))))
def GX12_part_0_17 (rc : Nat → Int32 → Int32 → SX → Option (Int32 × SX)) (y0 : Int32) (u : SX) : Option (Int32 × SX) := (LX12_part_0_18 rc  5000 y0 u)
def fX12_part_0 (rc : Nat → Int32 → Int32 → SX → Option (Int32 × SX)) (x1 : Int32) (x2 : Int32) (u : SX) : Option (Int32 × SX) := (if x1 = 0 then ((rc 2  0 0 u).bind fun q => match q with | (r1, u2) => (GX12_part_0_17 rc r1 u2)) else ((fX12_compares_0 1 x2 u).bind fun q => match q with | (r14, u15) => (GX12_part_0_17 rc r14 u15)))
set_option maxHeartbeats 4000000 in
set_option maxRecDepth 100000 in
theorem wGX12_part_0_65 {p : Program} {l : Launch} {e : Env} {s : State} {m : MethodId} {args : Array Value} {below : List Frame} {meth : Method} {c : Code} {D : va_G} {cy : Nat → ClassId} {ad st : Nat → Nat} (C : Cx RX12 cX12_part 5 (some .boolean) wsX12_part p s m args meth c) (hK : Kx D [(cy 0, .int), (cy 1, .long), (cy 2, .boolean), (cy 3, .byte), (cy 4, .object "HissHorn$Text")] st s) (hJ : JM ad) {rc : Nat → Int32 → Int32 → SX → Option (Int32 × SX)} {dd : Nat} (hrc : hRX12conditiong l D cy ad st rc dd) {r : Int32} {u' : SX} {k18 : Int32 → SX → Option (Int32 × SX)} (hk18 : ∀ (z3 : Int32) (u : SX) (H : Heap) (locs : List Loc) (ls : Array Slot), k18 z3 u = some (r, u') → va_P D vwCl (VM cy ad st u) H → va_S (Ax (AM ad) s.heap.size) s.heap H locs → lv_has ls 5 [(0, .ref (ad 0)), (3, .int z3)] → W p l e (rmX12conditiong (dd + 1)) s m args below meth c H locs 0 0 (MQ below (Qi D (VM cy ad st) (AM ad) s.heap.size r u') args s 0 0 (Ax (AM ad) s.heap.size)) (F0 m 18 ls [])) (y0 : Int32) (u : SX) (H : Heap) (locs : List Loc) (ls : Array Slot) (h : GX12_part_0_65 rc k18 y0 u = some (r, u')) (hP : va_P D vwCl (VM cy ad st u) H) (hS : va_S (Ax (AM ad) s.heap.size) s.heap H locs) (hl : lv_has ls 5 [(0, .ref (ad 0))]) : W p l e (rmX12conditiong (dd + 1)) s m args below meth c H locs 0 0 (MQ below (Qi D (VM cy ad st) (AM ad) s.heap.size r u') args s 0 0 (Ax (AM ad) s.heap.size)) (F0 m 65 ls [.int y0]) := by
  unfold GX12_part_0_65 at h
  refine lv_istore_n (lv' := [(3, .int y0), (0, .ref (ad 0))]) C.1 C.2.1 dX12_part_65 rfl hl (by decide) rfl (fun ls hl => ?_)
  replace hl := lv_sub (l' := [(0, .ref (ad 0)), (3, .int y0)]) hl [1, 0] rfl
  refine lv_goto (tgt := 18) C.1 C.2.1 dX12_part_66 (by decide) ?_
  exact hk18 _ _ _ _ _ h hP hS hl
set_option maxHeartbeats 4000000 in
set_option maxRecDepth 100000 in
theorem wGX12_part_0_64 {p : Program} {l : Launch} {e : Env} {s : State} {m : MethodId} {args : Array Value} {below : List Frame} {meth : Method} {c : Code} {D : va_G} {cy : Nat → ClassId} {ad st : Nat → Nat} (C : Cx RX12 cX12_part 5 (some .boolean) wsX12_part p s m args meth c) (hK : Kx D [(cy 0, .int), (cy 1, .long), (cy 2, .boolean), (cy 3, .byte), (cy 4, .object "HissHorn$Text")] st s) (hJ : JM ad) {rc : Nat → Int32 → Int32 → SX → Option (Int32 × SX)} {dd : Nat} (hrc : hRX12conditiong l D cy ad st rc dd) {r : Int32} {u' : SX} {k18 : Int32 → SX → Option (Int32 × SX)} (hk18 : ∀ (z3 : Int32) (u : SX) (H : Heap) (locs : List Loc) (ls : Array Slot), k18 z3 u = some (r, u') → va_P D vwCl (VM cy ad st u) H → va_S (Ax (AM ad) s.heap.size) s.heap H locs → lv_has ls 5 [(0, .ref (ad 0)), (3, .int z3)] → W p l e (rmX12conditiong (dd + 1)) s m args below meth c H locs 0 0 (MQ below (Qi D (VM cy ad st) (AM ad) s.heap.size r u') args s 0 0 (Ax (AM ad) s.heap.size)) (F0 m 18 ls [])) (u : SX) (H : Heap) (locs : List Loc) (ls : Array Slot) (h : GX12_part_0_64 rc k18  u = some (r, u')) (hP : va_P D vwCl (VM cy ad st u) H) (hS : va_S (Ax (AM ad) s.heap.size) s.heap H locs) (hl : lv_has ls 5 [(0, .ref (ad 0))]) : W p l e (rmX12conditiong (dd + 1)) s m args below meth c H locs 0 0 (MQ below (Qi D (VM cy ad st) (AM ad) s.heap.size r u') args s 0 0 (Ax (AM ad) s.heap.size)) (F0 m 64 ls []) := by
  unfold GX12_part_0_64 at h
  refine lv_iconst (v := 0) C.1 C.2.1 dX12_part_64 (by decide) ?_
  exact wGX12_part_0_65 C hK hJ hrc hk18 _ _ _ _ _ h hP hS hl
set_option maxHeartbeats 4000000 in
set_option maxRecDepth 100000 in
theorem wLX12_part_0_18 {p : Program} {l : Launch} {e : Env} {s : State} {m : MethodId} {args : Array Value} {below : List Frame} {meth : Method} {c : Code} {D : va_G} {cy : Nat → ClassId} {ad st : Nat → Nat} (C : Cx RX12 cX12_part 5 (some .boolean) wsX12_part p s m args meth c) (hK : Kx D [(cy 0, .int), (cy 1, .long), (cy 2, .boolean), (cy 3, .byte), (cy 4, .object "HissHorn$Text")] st s) (hJ : JM ad) {rc : Nat → Int32 → Int32 → SX → Option (Int32 × SX)} {dd : Nat} (hrc : hRX12conditiong l D cy ad st rc dd) {r : Int32} {u' : SX}   : ∀ (n : Nat) (z3 : Int32) (u : SX) (H : Heap) (locs : List Loc) (ls : Array Slot), LX12_part_0_18 rc  n z3 u = some (r, u') → va_P D vwCl (VM cy ad st u) H → va_S (Ax (AM ad) s.heap.size) s.heap H locs → lv_has ls 5 [(0, .ref (ad 0)), (3, .int z3)] → W p l e (rmX12conditiong (dd + 1)) s m args below meth c H locs 0 0 (MQ below (Qi D (VM cy ad st) (AM ad) s.heap.size r u') args s 0 0 (Ax (AM ad) s.heap.size)) (F0 m 18 ls []) := by
  intro n
  induction n with
  | zero =>
    intro z3 u H locs ls h
    exact absurd h (by intro q; cases q)
  | succ n ih =>
    intro z3 u H locs ls h hP hS hl
    rw [LX12_part_0_18] at h
    refine lv_aload_n C.1 C.2.1 dX12_part_18 rfl (lv_at hl 0 rfl) ?_
    refine gM_0_fault C hX12_part_0_X12 hK hP mX12_part_0_1 dX12_part_19 ?_
    refine lv_iconst (v := (-1)) C.1 C.2.1 dX12_part_22 (by decide) ?_
    refine lv_icmp_ne (tgt := 69) C.1 C.2.1 dX12_part_23 (by decide) (fun c23 => ?_) (fun c23 => ?_)
    · rw [if_neg c23] at h
      refine lv_iload_n C.1 C.2.1 dX12_part_69 rfl (lv_at hl 1 rfl) ?_
      obtain ⟨hg4, h⟩ := gd_some h
      cases h
      exact rt_z hg4 C hP hS dX12_part_70
    · rw [if_pos c23] at h
      refine lv_aload_n C.1 C.2.1 dX12_part_26 rfl (lv_at hl 0 rfl) ?_
      obtain ⟨⟨r5, u6⟩, hc7, h⟩ := bd_some h
      try dsimp only at h
      refine cg_i (As := []) (rest := []) C hK hP hS (metX12_look_0 l D cy ad st hJ _  hc7) (cwV 0 C.2.2.2.2.2.1 gX12_part_X12_look rfl rfl rfl (by decide +kernel) ⟨(Nat.le_trans (m := 68) (Nat.le_of_ble_eq_true rfl) (rmX12conditiong_f _)), (Nat.le_trans (m := 4186) (Nat.le_of_ble_eq_true rfl) (rmX12conditiong_l _))⟩) 0 12 rfl rfl rfl hl.1 rfl (Nat.le_of_ble_eq_true rfl) dX12_part_27 ⟨Nat.zero_le _, Nat.zero_le _⟩ (fun H locs hP hS => ?_)
      refine lv_bipush (v := 38) C.1 C.2.1 dX12_part_30 (by decide) ?_
      refine lv_icmp_ne (tgt := 69) C.1 C.2.1 dX12_part_32 (by decide) (fun c32 => ?_) (fun c32 => ?_)
      · rw [if_neg c32] at h
        refine lv_iload_n C.1 C.2.1 dX12_part_69 rfl (lv_at hl 1 rfl) ?_
        obtain ⟨hg8, h⟩ := gd_some h
        cases h
        exact rt_z hg8 C hP hS dX12_part_70
      · rw [if_pos c32] at h
        refine lv_aload_n C.1 C.2.1 dX12_part_35 rfl (lv_at hl 0 rfl) ?_
        refine lv_dup C.1 C.2.1 dX12_part_36 rfl ?_
        refine gM_0_at C hX12_part_0_X12 hK hP mX12_part_0_2 dX12_part_37 ?_
        refine lv_iconst (v := 1) C.1 C.2.1 dX12_part_40 (by decide) ?_
        refine lv_iadd C.1 C.2.1 dX12_part_41 ?_
        refine pM_0_at C hX12_part_0_X12 hK hP hJ hS mX12_part_0_2 dX12_part_42 (fun H locs hP hS => ?_)
        obtain ⟨u9, hu10, h⟩ := lt_some h
        rw [← hu10] at hP
        refine lv_aload_n C.1 C.2.1 dX12_part_45 rfl (lv_at hl 0 rfl) ?_
        obtain ⟨⟨r11, u12⟩, hc13, h⟩ := bd_some h
        try dsimp only at h
        refine cg_i (As := []) (rest := []) C hK hP hS (hrc.2.2 _  _ _ _ hc13) (cwV 0 C.2.2.2.2.2.1 gX12_part_X12_unit rfl rfl rfl (by decide +kernel) ⟨rmX12conditiong_sf dd, rmX12conditiong_sl dd (k := 8 + (3 + 11)) (Nat.le_of_ble_eq_true rfl)⟩) 0 12 rfl rfl rfl hl.1 rfl (Nat.le_of_ble_eq_true rfl) dX12_part_46 ⟨Nat.zero_le _, Nat.zero_le _⟩ (fun H locs hP hS => ?_)
        refine lv_istore (lv' := [(4, .int r11), (0, .ref (ad 0)), (3, .int z3)]) C.1 C.2.1 dX12_part_49 hl (by decide) rfl (fun ls hl => ?_)
        replace hl := lv_sub (l' := [(0, .ref (ad 0)), (3, .int z3), (4, .int r11)]) hl [1, 2, 0] rfl
        refine lv_iload_n C.1 C.2.1 dX12_part_51 rfl (lv_at hl 1 rfl) ?_
        refine lv_if_eq (tgt := 64) C.1 C.2.1 dX12_part_52 (by decide) (fun c52 => ?_) (fun c52 => ?_)
        · rw [if_pos c52] at h
          exact wGX12_part_0_64 C hK hJ hrc ih _ _ _ _ h hP hS (lv_sub hl [0] rfl)
        · rw [if_neg c52] at h
          refine lv_iload C.1 C.2.1 dX12_part_55 (lv_at hl 2 rfl) ?_
          refine lv_if_eq (tgt := 64) C.1 C.2.1 dX12_part_57 (by decide) (fun c57 => ?_) (fun c57 => ?_)
          · rw [if_pos c57] at h
            exact wGX12_part_0_64 C hK hJ hrc ih _ _ _ _ h hP hS (lv_sub hl [0] rfl)
          · rw [if_neg c57] at h
            refine lv_iconst (v := 1) C.1 C.2.1 dX12_part_60 (by decide) ?_
            refine lv_goto (tgt := 65) C.1 C.2.1 dX12_part_61 (by decide) ?_
            exact wGX12_part_0_65 C hK hJ hrc ih _ _ _ _ _ h hP hS (lv_sub hl [0] rfl)
set_option maxHeartbeats 4000000 in
set_option maxRecDepth 100000 in
theorem wGX12_part_0_17 {p : Program} {l : Launch} {e : Env} {s : State} {m : MethodId} {args : Array Value} {below : List Frame} {meth : Method} {c : Code} {D : va_G} {cy : Nat → ClassId} {ad st : Nat → Nat} (C : Cx RX12 cX12_part 5 (some .boolean) wsX12_part p s m args meth c) (hK : Kx D [(cy 0, .int), (cy 1, .long), (cy 2, .boolean), (cy 3, .byte), (cy 4, .object "HissHorn$Text")] st s) (hJ : JM ad) {rc : Nat → Int32 → Int32 → SX → Option (Int32 × SX)} {dd : Nat} (hrc : hRX12conditiong l D cy ad st rc dd) {r : Int32} {u' : SX}   (y0 : Int32) (u : SX) (H : Heap) (locs : List Loc) (ls : Array Slot) (h : GX12_part_0_17 rc y0 u = some (r, u')) (hP : va_P D vwCl (VM cy ad st u) H) (hS : va_S (Ax (AM ad) s.heap.size) s.heap H locs) (hl : lv_has ls 5 [(0, .ref (ad 0))]) : W p l e (rmX12conditiong (dd + 1)) s m args below meth c H locs 0 0 (MQ below (Qi D (VM cy ad st) (AM ad) s.heap.size r u') args s 0 0 (Ax (AM ad) s.heap.size)) (F0 m 17 ls [.int y0]) := by
  unfold GX12_part_0_17 at h
  refine lv_istore_n (lv' := [(3, .int y0), (0, .ref (ad 0))]) C.1 C.2.1 dX12_part_17 rfl hl (by decide) rfl (fun ls hl => ?_)
  replace hl := lv_sub (l' := [(0, .ref (ad 0)), (3, .int y0)]) hl [1, 0] rfl
  exact wLX12_part_0_18 C hK hJ hrc  5000 _ _ _ _ _ h hP hS hl
set_option maxHeartbeats 4000000 in
set_option maxRecDepth 100000 in
theorem wX12_part_0 {p : Program} {l : Launch} {e : Env} {s : State} {m : MethodId} {args : Array Value} {below : List Frame} {meth : Method} {c : Code} {D : va_G} {cy : Nat → ClassId} {ad st : Nat → Nat} (C : Cx RX12 cX12_part 5 (some .boolean) wsX12_part p s m args meth c) (hK : Kx D [(cy 0, .int), (cy 1, .long), (cy 2, .boolean), (cy 3, .byte), (cy 4, .object "HissHorn$Text")] st s) (hJ : JM ad) {rc : Nat → Int32 → Int32 → SX → Option (Int32 × SX)} {dd : Nat} (hrc : hRX12conditiong l D cy ad st rc dd) (x1 : Int32) (x2 : Int32) {u : SX} {r : Int32} {u' : SX} {H : Heap} {locs : List Loc} {ls : Array Slot} (h : fX12_part_0 rc x1 x2 u = some (r, u')) (hP : va_P D vwCl (VM cy ad st u) H) (hS : va_S (Ax (AM ad) s.heap.size) s.heap H locs) (hl : lv_has ls 5 [(0, .ref (ad 0)), (1, .int x1), (2, .int x2)]) : W p l e (rmX12conditiong (dd + 1)) s m args below meth c H locs 0 0 (MQ below (Qi D (VM cy ad st) (AM ad) s.heap.size r u') args s 0 0 (Ax (AM ad) s.heap.size)) (F0 m 0 ls []) := by
  unfold fX12_part_0 at h
  refine lv_iload_n C.1 C.2.1 dX12_part_0 rfl (lv_at hl 1 rfl) ?_
  refine lv_if_eq (tgt := 13) C.1 C.2.1 dX12_part_1 (by decide) (fun c1 => ?_) (fun c1 => ?_)
  · rw [if_pos c1] at h
    refine lv_aload_n C.1 C.2.1 dX12_part_13 rfl (lv_at hl 0 rfl) ?_
    obtain ⟨⟨r1, u2⟩, hc3, h⟩ := bd_some h
    try dsimp only at h
    refine cg_i (As := []) (rest := []) C hK hP hS (hrc.2.2 _  _ _ _ hc3) (cwV 0 C.2.2.2.2.2.1 gX12_part_X12_unit rfl rfl rfl (by decide +kernel) ⟨rmX12conditiong_sf dd, rmX12conditiong_sl dd (k := 8 + (3 + 11)) (Nat.le_of_ble_eq_true rfl)⟩) 0 12 rfl rfl rfl hl.1 rfl (Nat.le_of_ble_eq_true rfl) dX12_part_14 ⟨Nat.zero_le _, Nat.zero_le _⟩ (fun H locs hP hS => ?_)
    exact wGX12_part_0_17 C hK hJ hrc _ _ _ _ _ h hP hS (lv_sub hl [0] rfl)
  · rw [if_neg c1] at h
    refine lv_aload_n C.1 C.2.1 dX12_part_4 rfl (lv_at hl 0 rfl) ?_
    refine lv_iconst (v := 1) C.1 C.2.1 dX12_part_5 (by decide) ?_
    refine lv_iload_n C.1 C.2.1 dX12_part_6 rfl (lv_at hl 2 rfl) ?_
    obtain ⟨⟨r14, u15⟩, hc16, h⟩ := bd_some h
    try dsimp only at h
    refine cg_i (As := [.int 1, .int x2]) (rest := []) C hK hP hS (metX12_compares_0 l D cy ad st hJ _ 1 x2 hc16) (cwV 2 C.2.2.2.2.2.1 gX12_part_X12_compares rfl rfl rfl (by decide +kernel) ⟨(Nat.le_trans (m := 68) (Nat.le_of_ble_eq_true rfl) (rmX12conditiong_f _)), (Nat.le_trans (m := 4186) (Nat.le_of_ble_eq_true rfl) (rmX12conditiong_l _))⟩) 0 12 rfl rfl rfl hl.1 rfl (Nat.le_of_ble_eq_true rfl) dX12_part_7 ⟨Nat.zero_le _, Nat.zero_le _⟩ (fun H locs hP hS => ?_)
    refine lv_goto (tgt := 17) C.1 C.2.1 dX12_part_10 (by decide) ?_
    exact wGX12_part_0_17 C hK hJ hrc _ _ _ _ _ h hP hS (lv_sub hl [0] rfl)
theorem metX12_part_0 (l : Launch) (D : va_G) (cy : Nat → ClassId) (ad st : Nat → Nat) (hJ : JM ad) {rc : Nat → Int32 → Int32 → SX → Option (Int32 × SX)} {dd : Nat} (hrc : hRX12conditiong l D cy ad st rc dd) (sz : Nat) (x1 : Int32) (x2 : Int32) {u : SX} {r : Int32} {u' : SX} (h : fX12_part_0 rc x1 x2 u = some (r, u')) : Met l yX12_part wsX12_part (rmX12conditiong (dd + 1)) (va_Pc [.ref (ad 0), .int x1, .int x2] (Px D [(cy 0, .int), (cy 1, .long), (cy 2, .boolean), (cy 3, .byte), (cy 4, .object "HissHorn$Text")] st (VM cy ad st) sz u)) (Qi D (VM cy ad st) (AM ad) sz r u') 0 0 (Ax (AM ad) sz) := by
  refine Met.ofW (cc := cX12_part) (maxL := 5) (ret := (some .boolean)) (by decide) rfl ?_
  intro p e s m args below meth c s₁ B hml hv
  obtain ⟨rfl, hsz, hP, hK⟩ := hv
  subst hsz
  have C : Cx RX12 cX12_part 5 (some .boolean) wsX12_part p s m _ meth c := ⟨B.exec, B.bytes, hml, B.returns, findClass_of_methodNamed B.named, atoms_spec (ws := wsX12_part) B.pre, B.notSynchronized⟩
  have hl := lv_entry ([.ref (ad 0), .int x1, .int x2]) (n := 5) (Nat.le_of_ble_eq_true rfl)
  rw [lg_entry_eq]
  exact wX12_part_0 C hK hJ hrc x1 x2 h hP va_S.rf hl

theorem dX12_unit_0 : decode cX12_unit 0 = .ok (.aload_n 0, 1) := by decide +kernel
set_option maxRecDepth 20000 in
theorem ggX12_unit_X12_look : GoodIn wsX12_unit wsX12_look := goodIn_r _ [6, 7, 8, 9, 10, 160, 161, 162, 163, 164, 165, 166, 167, 168, 169, 170, 171, 172, 173, 174, 175, 176, 177, 178, 179, 180, 181, 182, 183, 184, 185, 186, 187, 188, 189, 190, 191, 192, 193, 194, 195, 196, 197, 198, 199, 200, 201, 202, 203, 204, 205, 206, 207, 208, 209, 210, 211, 212, 213, 214, 215, 216, 217, 218, 219, 220, 221, 222, 223, 224, 225, 226, 227, 228] (by decide +kernel) (by decide +kernel)
set_option maxRecDepth 20000 in
theorem gX12_unit_X12_look : GoodIn wsX12_unit (wsV RX12 192 RX12 yX12_look wsX12_look) := goodIn_app (goodIn_of _ (by decide +kernel)) ggX12_unit_X12_look
theorem dX12_unit_1 : decode cX12_unit 1 = .ok (.invokevirtual 192, 3) := by decide +kernel
theorem dX12_unit_4 : decode cX12_unit 4 = .ok (.istore_n 1, 1) := by decide +kernel
theorem dX12_unit_5 : decode cX12_unit 5 = .ok (.iload_n 1, 1) := by decide +kernel
theorem dX12_unit_6 : decode cX12_unit 6 = .ok (.bipush 33, 2) := by decide +kernel
theorem dX12_unit_8 : decode cX12_unit 8 = .ok (.if_icmp .ne 37, 3) := by decide +kernel
theorem dX12_unit_45 : decode cX12_unit 45 = .ok (.iload_n 1, 1) := by decide +kernel
theorem dX12_unit_46 : decode cX12_unit 46 = .ok (.bipush 40, 2) := by decide +kernel
theorem dX12_unit_48 : decode cX12_unit 48 = .ok (.if_icmp .ne 42, 3) := by decide +kernel
theorem dX12_unit_90 : decode cX12_unit 90 = .ok (.aload_n 0, 1) := by decide +kernel
theorem dX12_unit_91 : decode cX12_unit 91 = .ok (.iconst 0, 1) := by decide +kernel
theorem dX12_unit_92 : decode cX12_unit 92 = .ok (.iconst 0, 1) := by decide +kernel
set_option maxRecDepth 20000 in
theorem ggX12_unit_X12_compares : GoodIn wsX12_unit wsX12_compares := goodIn_r _ [33, 19, 7, 34, 35, 36, 5, 37, 38, 39, 40, 2, 3, 4, 6, 8, 9, 10, 41, 42, 43, 44, 45, 46, 47, 48, 49, 50, 51, 52, 53, 54, 55, 1, 56, 57, 58, 59, 60, 61, 62, 63, 64, 65, 66, 67, 68, 69, 70, 71, 72, 73, 74, 75, 76, 77, 78, 79, 80, 81, 82, 83, 84, 85, 86, 87, 88, 89, 90, 91, 92, 93, 94, 95, 96, 97, 98, 99, 100, 101, 102, 103, 104, 105, 106, 107, 108, 109, 110, 111, 112, 113, 114, 115, 116, 117, 118, 119, 120, 121, 122, 123, 124, 125, 126, 127, 128, 129, 130, 131, 132, 133, 134, 135, 136, 137, 138, 139, 140, 141, 142, 143, 11, 12, 13, 14, 15, 16, 17, 18, 26, 27, 28, 29, 144, 145, 146, 147, 148, 149, 150, 151, 152, 153, 154, 160, 161, 162, 163, 164, 165, 166, 167, 168, 169, 170, 171, 172, 173, 174, 175, 176, 177, 178, 179, 180, 181, 182, 183, 184, 185, 186, 187, 188, 189, 190, 191, 192, 193, 194, 195, 196, 197, 198, 199, 200, 201, 202, 203, 204, 205, 206, 207, 208, 209, 210, 211, 212, 213, 214, 215, 216, 217, 218, 219, 220, 221, 222, 223, 224, 225, 226, 227, 228] (by decide +kernel) (by decide +kernel)
set_option maxRecDepth 20000 in
theorem gX12_unit_X12_compares : GoodIn wsX12_unit (wsV RX12 247 RX12 yX12_compares wsX12_compares) := goodIn_app (goodIn_of _ (by decide +kernel)) ggX12_unit_X12_compares
theorem dX12_unit_93 : decode cX12_unit 93 = .ok (.invokevirtual 247, 3) := by decide +kernel
theorem dX12_unit_96 : decode cX12_unit 96 = .ok (.ireturn, 1) := by decide +kernel
theorem dX12_unit_51 : decode cX12_unit 51 = .ok (.aload_n 0, 1) := by decide +kernel
set_option maxRecDepth 20000 in
theorem ggX12_unit_X12_goesIn : GoodIn wsX12_unit wsX12_goesIn := goodIn_r _ [14, 1, 7, 15, 16, 17, 5, 18, 19, 160, 161, 162, 163, 164, 165, 166, 167, 168, 169, 170, 171, 172, 173, 174, 175, 176, 177, 178, 179, 180, 181, 182, 183, 184, 185, 186, 187, 188, 189, 190, 191, 192, 193, 194, 195, 196, 197, 198, 199, 200, 201, 202, 203, 204, 205, 206, 207, 208, 209, 210, 211, 212, 213, 214, 215, 216, 217, 218, 219, 220, 221, 222, 223, 224, 225, 226, 227, 228] (by decide +kernel) (by decide +kernel)
set_option maxRecDepth 20000 in
theorem gX12_unit_X12_goesIn : GoodIn wsX12_unit (wsV RX12 214 RX12 yX12_goesIn wsX12_goesIn) := goodIn_app (goodIn_of _ (by decide +kernel)) ggX12_unit_X12_goesIn
theorem dX12_unit_52 : decode cX12_unit 52 = .ok (.invokevirtual 214, 3) := by decide +kernel
theorem dX12_unit_55 : decode cX12_unit 55 = .ok (.ifCond .ne 5, 3) := by decide +kernel
theorem dX12_unit_60 : decode cX12_unit 60 = .ok (.aload_n 0, 1) := by decide +kernel
theorem dX12_unit_61 : decode cX12_unit 61 = .ok (.iconst 0, 1) := by decide +kernel
theorem dX12_unit_62 : decode cX12_unit 62 = .ok (.iconst 0, 1) := by decide +kernel
set_option maxRecDepth 20000 in
theorem ggX12_unit_X12_condition : GoodIn wsX12_unit wsX12_condition := goodIn_r _ [155, 19, 7, 156, 157, 158, 5, 2, 3, 4, 6, 8, 9, 10, 159, 30, 31, 32, 33, 34, 35, 36, 37, 38, 39, 40, 41, 42, 43, 44, 45, 46, 47, 48, 49, 50, 51, 52, 53, 54, 55, 1, 56, 57, 58, 59, 60, 61, 62, 63, 64, 65, 66, 67, 68, 69, 70, 71, 72, 73, 74, 75, 76, 77, 78, 79, 80, 81, 82, 83, 84, 85, 86, 87, 88, 89, 90, 91, 92, 93, 94, 95, 96, 97, 98, 99, 100, 101, 102, 103, 104, 105, 106, 107, 108, 109, 110, 111, 112, 113, 114, 115, 116, 117, 118, 119, 120, 121, 122, 123, 124, 125, 126, 127, 128, 129, 130, 131, 132, 133, 134, 135, 136, 137, 138, 139, 140, 141, 142, 143, 11, 12, 13, 14, 15, 16, 17, 18, 26, 27, 28, 29, 144, 145, 146, 147, 148, 149, 150, 151, 152, 153, 154, 20, 21, 22, 0, 23, 24, 25, 160, 161, 162, 163, 164, 165, 166, 167, 168, 169, 170, 171, 172, 173, 174, 175, 176, 177, 178, 179, 180, 181, 182, 183, 184, 185, 186, 187, 188, 189, 190, 191, 192, 193, 194, 195, 196, 197, 198, 199, 200, 201, 202, 203, 204, 205, 206, 207, 208, 209, 210, 211, 212, 213, 214, 215, 216, 217, 218, 219, 220, 221, 222, 223, 224, 225, 226, 227, 228] (by decide +kernel) (by decide +kernel)
set_option maxRecDepth 20000 in
theorem gX12_unit_X12_condition : GoodIn wsX12_unit (wsV RX12 243 RX12 yX12_condition wsX12_condition) := goodIn_app (goodIn_of _ (by decide +kernel)) ggX12_unit_X12_condition
theorem dX12_unit_63 : decode cX12_unit 63 = .ok (.invokevirtual 243, 3) := by decide +kernel
theorem dX12_unit_66 : decode cX12_unit 66 = .ok (.istore_n 2, 1) := by decide +kernel
theorem dX12_unit_67 : decode cX12_unit 67 = .ok (.aload_n 0, 1) := by decide +kernel
theorem dX12_unit_68 : decode cX12_unit 68 = .ok (.bipush 41, 2) := by decide +kernel
set_option maxRecDepth 20000 in
theorem ggX12_unit_X12_takes : GoodIn wsX12_unit wsX12_takes := goodIn_r _ [29, 19, 7, 2, 3, 4, 5, 6, 8, 9, 10, 15, 16, 17, 18, 160, 161, 162, 163, 164, 165, 166, 167, 168, 169, 170, 171, 172, 173, 174, 175, 176, 177, 178, 179, 180, 181, 182, 183, 184, 185, 186, 187, 188, 189, 190, 191, 192, 193, 194, 195, 196, 197, 198, 199, 200, 201, 202, 203, 204, 205, 206, 207, 208, 209, 210, 211, 212, 213, 214, 215, 216, 217, 218, 219, 220, 221, 222, 223, 224, 225, 226, 227, 228] (by decide +kernel) (by decide +kernel)
set_option maxRecDepth 20000 in
theorem gX12_unit_X12_takes : GoodIn wsX12_unit (wsV RX12 220 RX12 yX12_takes wsX12_takes) := goodIn_app (goodIn_of _ (by decide +kernel)) ggX12_unit_X12_takes
theorem dX12_unit_70 : decode cX12_unit 70 = .ok (.invokevirtual 220, 3) := by decide +kernel
theorem dX12_unit_73 : decode cX12_unit 73 = .ok (.ifCond .ne 5, 3) := by decide +kernel
theorem dX12_unit_78 : decode cX12_unit 78 = .ok (.aload_n 0, 1) := by decide +kernel
theorem dX12_unit_79 : decode cX12_unit 79 = .ok (.dup, 1) := by decide +kernel
theorem dX12_unit_80 : decode cX12_unit 80 = .ok (.getfield 185, 3) := by decide +kernel
theorem dX12_unit_83 : decode cX12_unit 83 = .ok (.iconst 1, 1) := by decide +kernel
theorem dX12_unit_84 : decode cX12_unit 84 = .ok (.isub, 1) := by decide +kernel
theorem dX12_unit_85 : decode cX12_unit 85 = .ok (.putfield 185, 3) := by decide +kernel
theorem dX12_unit_88 : decode cX12_unit 88 = .ok (.iload_n 2, 1) := by decide +kernel
theorem dX12_unit_89 : decode cX12_unit 89 = .ok (.ireturn, 1) := by decide +kernel
theorem dX12_unit_76 : decode cX12_unit 76 = .ok (.iconst 0, 1) := by decide +kernel
theorem dX12_unit_77 : decode cX12_unit 77 = .ok (.ireturn, 1) := by decide +kernel
theorem dX12_unit_58 : decode cX12_unit 58 = .ok (.iconst 0, 1) := by decide +kernel
theorem dX12_unit_59 : decode cX12_unit 59 = .ok (.ireturn, 1) := by decide +kernel
theorem dX12_unit_11 : decode cX12_unit 11 = .ok (.aload_n 0, 1) := by decide +kernel
theorem dX12_unit_12 : decode cX12_unit 12 = .ok (.invokevirtual 214, 3) := by decide +kernel
theorem dX12_unit_15 : decode cX12_unit 15 = .ok (.ifCond .ne 5, 3) := by decide +kernel
theorem dX12_unit_20 : decode cX12_unit 20 = .ok (.aload_n 0, 1) := by decide +kernel
set_option maxRecDepth 20000 in
theorem ggX12_unit_X12_unit : GoodIn wsX12_unit wsX12_unit := goodIn_r _ [0, 1, 2, 3, 4, 5, 6, 7, 8, 9, 10, 11, 12, 13, 14, 15, 16, 17, 18, 19, 20, 21, 22, 23, 24, 25, 26, 27, 28, 29, 30, 31, 32, 33, 34, 35, 36, 37, 38, 39, 40, 41, 42, 43, 44, 45, 46, 47, 48, 49, 50, 51, 52, 53, 54, 55, 56, 57, 58, 59, 60, 61, 62, 63, 64, 65, 66, 67, 68, 69, 70, 71, 72, 73, 74, 75, 76, 77, 78, 79, 80, 81, 82, 83, 84, 85, 86, 87, 88, 89, 90, 91, 92, 93, 94, 95, 96, 97, 98, 99, 100, 101, 102, 103, 104, 105, 106, 107, 108, 109, 110, 111, 112, 113, 114, 115, 116, 117, 118, 119, 120, 121, 122, 123, 124, 125, 126, 127, 128, 129, 130, 131, 132, 133, 134, 135, 136, 137, 138, 139, 140, 141, 142, 143, 144, 145, 146, 147, 148, 149, 150, 151, 152, 153, 154, 155, 156, 157, 158, 159, 160, 161, 162, 163, 164, 165, 166, 167, 168, 169, 170, 171, 172, 173, 174, 175, 176, 177, 178, 179, 180, 181, 182, 183, 184, 185, 186, 187, 188, 189, 190, 191, 192, 193, 194, 195, 196, 197, 198, 199, 200, 201, 202, 203, 204, 205, 206, 207, 208, 209, 210, 211, 212, 213, 214, 215, 216, 217, 218, 219, 220, 221, 222, 223, 224, 225, 226, 227, 228] (by decide +kernel) (by decide +kernel)
set_option maxRecDepth 20000 in
theorem gX12_unit_X12_unit : GoodIn wsX12_unit (wsV RX12 240 RX12 yX12_unit wsX12_unit) := goodIn_app (goodIn_of _ (by decide +kernel)) ggX12_unit_X12_unit
theorem dX12_unit_21 : decode cX12_unit 21 = .ok (.invokevirtual 240, 3) := by decide +kernel
theorem dX12_unit_24 : decode cX12_unit 24 = .ok (.istore_n 2, 1) := by decide +kernel
theorem dX12_unit_25 : decode cX12_unit 25 = .ok (.aload_n 0, 1) := by decide +kernel
theorem dX12_unit_26 : decode cX12_unit 26 = .ok (.dup, 1) := by decide +kernel
theorem dX12_unit_27 : decode cX12_unit 27 = .ok (.getfield 185, 3) := by decide +kernel
theorem dX12_unit_30 : decode cX12_unit 30 = .ok (.iconst 1, 1) := by decide +kernel
theorem dX12_unit_31 : decode cX12_unit 31 = .ok (.isub, 1) := by decide +kernel
theorem dX12_unit_32 : decode cX12_unit 32 = .ok (.putfield 185, 3) := by decide +kernel
theorem dX12_unit_35 : decode cX12_unit 35 = .ok (.iload_n 2, 1) := by decide +kernel
theorem dX12_unit_36 : decode cX12_unit 36 = .ok (.ifCond .ne 7, 3) := by decide +kernel
theorem dX12_unit_43 : decode cX12_unit 43 = .ok (.iconst 0, 1) := by decide +kernel
theorem dX12_unit_44 : decode cX12_unit 44 = .ok (.ireturn, 1) := by decide +kernel
theorem dX12_unit_39 : decode cX12_unit 39 = .ok (.iconst 1, 1) := by decide +kernel
theorem dX12_unit_40 : decode cX12_unit 40 = .ok (.goto 4, 3) := by decide +kernel
theorem dX12_unit_18 : decode cX12_unit 18 = .ok (.iconst 0, 1) := by decide +kernel
theorem dX12_unit_19 : decode cX12_unit 19 = .ok (.ireturn, 1) := by decide +kernel
/-- HissHornModel.unit()Z of cell 0 -/
theorem hX12_unit_0_X12 : ∀ w ∈ u_ws RX12 TX12 69, w ∈ wsX12_unit := fun w h => (List.mem_cons_of_mem _ (List.mem_append_right _ h))
theorem mX12_unit_0_1 : Cond.fieldLink RX12 185 "HissHornModel" "deep" "I" ∈ wsX12_unit := (List.mem_cons_of_mem _ (List.mem_append_left _ (List.mem_append_left _ (List.mem_of_getElem? (i := 0) rfl))))
def fX12_unit_0 (rc : Nat → Int32 → Int32 → SX → Option (Int32 × SX))  (u : SX) : Option (Int32 × SX) := ((fX12_look_0  u).bind fun q => match q with | (r1, u2) => (if r1 = 33 then ((fX12_goesIn_0  u2).bind fun q => match q with | (r22, u23) => (if r22 = 0 then (gd (isB 0) (some (0, u23))) else ((rc 2  0 0 u23).bind fun q => match q with | (r25, u26) => (lt (sI u26 8 ((u26.1 8) - 1)) fun u28 => (if r25 = 0 then (gd (isB 1) (some (1, u28))) else (gd (isB 0) (some (0, u28)))))))) else (if r1 = 40 then ((fX12_goesIn_0  u2).bind fun q => match q with | (r8, u9) => (if r8 = 0 then (gd (isB 0) (some (0, u9))) else ((rc 0 0 0 u9).bind fun q => match q with | (r11, u12) => ((fX12_takes_0 41 u12).bind fun q => match q with | (r14, u15) => (if r14 = 0 then (gd (isB 0) (some (0, u15))) else (lt (sI u15 8 ((u15.1 8) - 1)) fun u17 => (gd (isB r11) (some (r11, u17))))))))) else ((fX12_compares_0 0 0 u2).bind fun q => match q with | (r4, u5) => (gd (isB r4) (some (r4, u5)))))))
set_option maxHeartbeats 4000000 in
set_option maxRecDepth 100000 in
theorem wX12_unit_0 {p : Program} {l : Launch} {e : Env} {s : State} {m : MethodId} {args : Array Value} {below : List Frame} {meth : Method} {c : Code} {D : va_G} {cy : Nat → ClassId} {ad st : Nat → Nat} (C : Cx RX12 cX12_unit 3 (some .boolean) wsX12_unit p s m args meth c) (hK : Kx D [(cy 0, .int), (cy 1, .long), (cy 2, .boolean), (cy 3, .byte), (cy 4, .object "HissHorn$Text")] st s) (hJ : JM ad) {rc : Nat → Int32 → Int32 → SX → Option (Int32 × SX)} {dd : Nat} (hrc : hRX12conditiong l D cy ad st rc dd)  {u : SX} {r : Int32} {u' : SX} {H : Heap} {locs : List Loc} {ls : Array Slot} (h : fX12_unit_0 rc  u = some (r, u')) (hP : va_P D vwCl (VM cy ad st u) H) (hS : va_S (Ax (AM ad) s.heap.size) s.heap H locs) (hl : lv_has ls 3 [(0, .ref (ad 0))]) : W p l e (rmX12conditiong (dd + 1)) s m args below meth c H locs 0 0 (MQ below (Qi D (VM cy ad st) (AM ad) s.heap.size r u') args s 0 0 (Ax (AM ad) s.heap.size)) (F0 m 0 ls []) := by
  unfold fX12_unit_0 at h
  refine lv_aload_n C.1 C.2.1 dX12_unit_0 rfl (lv_at hl 0 rfl) ?_
  obtain ⟨⟨r1, u2⟩, hc3, h⟩ := bd_some h
  try dsimp only at h
  refine cg_i (As := []) (rest := []) C hK hP hS (metX12_look_0 l D cy ad st hJ _  hc3) (cwV 0 C.2.2.2.2.2.1 gX12_unit_X12_look rfl rfl rfl (by decide +kernel) ⟨(Nat.le_trans (m := 68) (Nat.le_of_ble_eq_true rfl) (rmX12conditiong_f _)), (Nat.le_trans (m := 4186) (Nat.le_of_ble_eq_true rfl) (rmX12conditiong_l _))⟩) 0 12 rfl rfl rfl hl.1 rfl (Nat.le_of_ble_eq_true rfl) dX12_unit_1 ⟨Nat.zero_le _, Nat.zero_le _⟩ (fun H locs hP hS => ?_)
  refine lv_istore_n (lv' := [(1, .int r1), (0, .ref (ad 0))]) C.1 C.2.1 dX12_unit_4 rfl hl (by decide) rfl (fun ls hl => ?_)
  replace hl := lv_sub (l' := [(0, .ref (ad 0)), (1, .int r1)]) hl [1, 0] rfl
  refine lv_iload_n C.1 C.2.1 dX12_unit_5 rfl (lv_at hl 1 rfl) ?_
  refine lv_bipush (v := 33) C.1 C.2.1 dX12_unit_6 (by decide) ?_
  refine lv_icmp_ne (tgt := 45) C.1 C.2.1 dX12_unit_8 (by decide) (fun c8 => ?_) (fun c8 => ?_)
  · rw [if_neg c8] at h
    refine lv_iload_n C.1 C.2.1 dX12_unit_45 rfl (lv_at hl 1 rfl) ?_
    refine lv_bipush (v := 40) C.1 C.2.1 dX12_unit_46 (by decide) ?_
    refine lv_icmp_ne (tgt := 90) C.1 C.2.1 dX12_unit_48 (by decide) (fun c48 => ?_) (fun c48 => ?_)
    · rw [if_neg c48] at h
      refine lv_aload_n C.1 C.2.1 dX12_unit_90 rfl (lv_at hl 0 rfl) ?_
      refine lv_iconst (v := 0) C.1 C.2.1 dX12_unit_91 (by decide) ?_
      refine lv_iconst (v := 0) C.1 C.2.1 dX12_unit_92 (by decide) ?_
      obtain ⟨⟨r4, u5⟩, hc6, h⟩ := bd_some h
      try dsimp only at h
      refine cg_i (As := [.int 0, .int 0]) (rest := []) C hK hP hS (metX12_compares_0 l D cy ad st hJ _ 0 0 hc6) (cwV 2 C.2.2.2.2.2.1 gX12_unit_X12_compares rfl rfl rfl (by decide +kernel) ⟨(Nat.le_trans (m := 68) (Nat.le_of_ble_eq_true rfl) (rmX12conditiong_f _)), (Nat.le_trans (m := 4186) (Nat.le_of_ble_eq_true rfl) (rmX12conditiong_l _))⟩) 0 12 rfl rfl rfl hl.1 rfl (Nat.le_of_ble_eq_true rfl) dX12_unit_93 ⟨Nat.zero_le _, Nat.zero_le _⟩ (fun H locs hP hS => ?_)
      obtain ⟨hg7, h⟩ := gd_some h
      cases h
      exact rt_z hg7 C hP hS dX12_unit_96
    · rw [if_pos c48] at h
      refine lv_aload_n C.1 C.2.1 dX12_unit_51 rfl (lv_at hl 0 rfl) ?_
      obtain ⟨⟨r8, u9⟩, hc10, h⟩ := bd_some h
      try dsimp only at h
      refine cg_i (As := []) (rest := []) C hK hP hS (metX12_goesIn_0 l D cy ad st hJ _  hc10) (cwV 0 C.2.2.2.2.2.1 gX12_unit_X12_goesIn rfl rfl rfl (by decide +kernel) ⟨(Nat.le_trans (m := 68) (Nat.le_of_ble_eq_true rfl) (rmX12conditiong_f _)), (Nat.le_trans (m := 4186) (Nat.le_of_ble_eq_true rfl) (rmX12conditiong_l _))⟩) 0 12 rfl rfl rfl hl.1 rfl (Nat.le_of_ble_eq_true rfl) dX12_unit_52 ⟨Nat.zero_le _, Nat.zero_le _⟩ (fun H locs hP hS => ?_)
      refine lv_if_ne (tgt := 60) C.1 C.2.1 dX12_unit_55 (by decide) (fun c55 => ?_) (fun c55 => ?_)
      · rw [if_neg c55] at h
        refine lv_aload_n C.1 C.2.1 dX12_unit_60 rfl (lv_at hl 0 rfl) ?_
        refine lv_iconst (v := 0) C.1 C.2.1 dX12_unit_61 (by decide) ?_
        refine lv_iconst (v := 0) C.1 C.2.1 dX12_unit_62 (by decide) ?_
        obtain ⟨⟨r11, u12⟩, hc13, h⟩ := bd_some h
        try dsimp only at h
        refine cg_i (As := [.int 0, .int 0]) (rest := []) C hK hP hS (hrc.1 _ 0 0 _ _ _ hc13) (cwV 2 C.2.2.2.2.2.1 gX12_unit_X12_condition rfl rfl rfl (by decide +kernel) ⟨rmX12conditiong_sf dd, rmX12conditiong_sl dd (k := 8 + (5 + 11)) (Nat.le_of_ble_eq_true rfl)⟩) 0 12 rfl rfl rfl hl.1 rfl (Nat.le_of_ble_eq_true rfl) dX12_unit_63 ⟨Nat.zero_le _, Nat.zero_le _⟩ (fun H locs hP hS => ?_)
        refine lv_istore_n (lv' := [(2, .int r11), (0, .ref (ad 0)), (1, .int r1)]) C.1 C.2.1 dX12_unit_66 rfl hl (by decide) rfl (fun ls hl => ?_)
        replace hl := lv_sub (l' := [(0, .ref (ad 0)), (1, .int r1), (2, .int r11)]) hl [1, 2, 0] rfl
        refine lv_aload_n C.1 C.2.1 dX12_unit_67 rfl (lv_at hl 0 rfl) ?_
        refine lv_bipush (v := 41) C.1 C.2.1 dX12_unit_68 (by decide) ?_
        obtain ⟨⟨r14, u15⟩, hc16, h⟩ := bd_some h
        try dsimp only at h
        refine cg_i (As := [.int 41]) (rest := []) C hK hP hS (metX12_takes_0 l D cy ad st hJ _ 41 hc16) (cwV 1 C.2.2.2.2.2.1 gX12_unit_X12_takes rfl rfl rfl (by decide +kernel) ⟨(Nat.le_trans (m := 68) (Nat.le_of_ble_eq_true rfl) (rmX12conditiong_f _)), (Nat.le_trans (m := 4186) (Nat.le_of_ble_eq_true rfl) (rmX12conditiong_l _))⟩) 0 12 rfl rfl rfl hl.1 rfl (Nat.le_of_ble_eq_true rfl) dX12_unit_70 ⟨Nat.zero_le _, Nat.zero_le _⟩ (fun H locs hP hS => ?_)
        refine lv_if_ne (tgt := 78) C.1 C.2.1 dX12_unit_73 (by decide) (fun c73 => ?_) (fun c73 => ?_)
        · rw [if_neg c73] at h
          refine lv_aload_n C.1 C.2.1 dX12_unit_78 rfl (lv_at hl 0 rfl) ?_
          refine lv_dup C.1 C.2.1 dX12_unit_79 rfl ?_
          refine gM_0_deep C hX12_unit_0_X12 hK hP mX12_unit_0_1 dX12_unit_80 ?_
          refine lv_iconst (v := 1) C.1 C.2.1 dX12_unit_83 (by decide) ?_
          refine lv_isub C.1 C.2.1 dX12_unit_84 ?_
          refine pM_0_deep C hX12_unit_0_X12 hK hP hJ hS mX12_unit_0_1 dX12_unit_85 (fun H locs hP hS => ?_)
          obtain ⟨u17, hu18, h⟩ := lt_some h
          rw [← hu18] at hP
          refine lv_iload_n C.1 C.2.1 dX12_unit_88 rfl (lv_at hl 2 rfl) ?_
          obtain ⟨hg19, h⟩ := gd_some h
          cases h
          exact rt_z hg19 C hP hS dX12_unit_89
        · rw [if_pos c73] at h
          refine lv_iconst (v := 0) C.1 C.2.1 dX12_unit_76 (by decide) ?_
          obtain ⟨hg20, h⟩ := gd_some h
          cases h
          exact rt_z hg20 C hP hS dX12_unit_77
      · rw [if_pos c55] at h
        refine lv_iconst (v := 0) C.1 C.2.1 dX12_unit_58 (by decide) ?_
        obtain ⟨hg21, h⟩ := gd_some h
        cases h
        exact rt_z hg21 C hP hS dX12_unit_59
  · rw [if_pos c8] at h
    refine lv_aload_n C.1 C.2.1 dX12_unit_11 rfl (lv_at hl 0 rfl) ?_
    obtain ⟨⟨r22, u23⟩, hc24, h⟩ := bd_some h
    try dsimp only at h
    refine cg_i (As := []) (rest := []) C hK hP hS (metX12_goesIn_0 l D cy ad st hJ _  hc24) (cwV 0 C.2.2.2.2.2.1 gX12_unit_X12_goesIn rfl rfl rfl (by decide +kernel) ⟨(Nat.le_trans (m := 68) (Nat.le_of_ble_eq_true rfl) (rmX12conditiong_f _)), (Nat.le_trans (m := 4186) (Nat.le_of_ble_eq_true rfl) (rmX12conditiong_l _))⟩) 0 12 rfl rfl rfl hl.1 rfl (Nat.le_of_ble_eq_true rfl) dX12_unit_12 ⟨Nat.zero_le _, Nat.zero_le _⟩ (fun H locs hP hS => ?_)
    refine lv_if_ne (tgt := 20) C.1 C.2.1 dX12_unit_15 (by decide) (fun c15 => ?_) (fun c15 => ?_)
    · rw [if_neg c15] at h
      refine lv_aload_n C.1 C.2.1 dX12_unit_20 rfl (lv_at hl 0 rfl) ?_
      obtain ⟨⟨r25, u26⟩, hc27, h⟩ := bd_some h
      try dsimp only at h
      refine cg_i (As := []) (rest := []) C hK hP hS (hrc.2.2 _  _ _ _ hc27) (cwV 0 C.2.2.2.2.2.1 gX12_unit_X12_unit rfl rfl rfl (by decide +kernel) ⟨rmX12conditiong_sf dd, rmX12conditiong_sl dd (k := 8 + (3 + 11)) (Nat.le_of_ble_eq_true rfl)⟩) 0 12 rfl rfl rfl hl.1 rfl (Nat.le_of_ble_eq_true rfl) dX12_unit_21 ⟨Nat.zero_le _, Nat.zero_le _⟩ (fun H locs hP hS => ?_)
      refine lv_istore_n (lv' := [(2, .int r25), (0, .ref (ad 0)), (1, .int r1)]) C.1 C.2.1 dX12_unit_24 rfl hl (by decide) rfl (fun ls hl => ?_)
      replace hl := lv_sub (l' := [(0, .ref (ad 0)), (1, .int r1), (2, .int r25)]) hl [1, 2, 0] rfl
      refine lv_aload_n C.1 C.2.1 dX12_unit_25 rfl (lv_at hl 0 rfl) ?_
      refine lv_dup C.1 C.2.1 dX12_unit_26 rfl ?_
      refine gM_0_deep C hX12_unit_0_X12 hK hP mX12_unit_0_1 dX12_unit_27 ?_
      refine lv_iconst (v := 1) C.1 C.2.1 dX12_unit_30 (by decide) ?_
      refine lv_isub C.1 C.2.1 dX12_unit_31 ?_
      refine pM_0_deep C hX12_unit_0_X12 hK hP hJ hS mX12_unit_0_1 dX12_unit_32 (fun H locs hP hS => ?_)
      obtain ⟨u28, hu29, h⟩ := lt_some h
      rw [← hu29] at hP
      refine lv_iload_n C.1 C.2.1 dX12_unit_35 rfl (lv_at hl 2 rfl) ?_
      refine lv_if_ne (tgt := 43) C.1 C.2.1 dX12_unit_36 (by decide) (fun c36 => ?_) (fun c36 => ?_)
      · rw [if_neg c36] at h
        refine lv_iconst (v := 0) C.1 C.2.1 dX12_unit_43 (by decide) ?_
        obtain ⟨hg30, h⟩ := gd_some h
        cases h
        exact rt_z hg30 C hP hS dX12_unit_44
      · rw [if_pos c36] at h
        refine lv_iconst (v := 1) C.1 C.2.1 dX12_unit_39 (by decide) ?_
        refine lv_goto (tgt := 44) C.1 C.2.1 dX12_unit_40 (by decide) ?_
        obtain ⟨hg31, h⟩ := gd_some h
        cases h
        exact rt_z hg31 C hP hS dX12_unit_44
    · rw [if_pos c15] at h
      refine lv_iconst (v := 0) C.1 C.2.1 dX12_unit_18 (by decide) ?_
      obtain ⟨hg32, h⟩ := gd_some h
      cases h
      exact rt_z hg32 C hP hS dX12_unit_19
theorem metX12_unit_0 (l : Launch) (D : va_G) (cy : Nat → ClassId) (ad st : Nat → Nat) (hJ : JM ad) {rc : Nat → Int32 → Int32 → SX → Option (Int32 × SX)} {dd : Nat} (hrc : hRX12conditiong l D cy ad st rc dd) (sz : Nat)  {u : SX} {r : Int32} {u' : SX} (h : fX12_unit_0 rc  u = some (r, u')) : Met l yX12_unit wsX12_unit (rmX12conditiong (dd + 1)) (va_Pc [.ref (ad 0)] (Px D [(cy 0, .int), (cy 1, .long), (cy 2, .boolean), (cy 3, .byte), (cy 4, .object "HissHorn$Text")] st (VM cy ad st) sz u)) (Qi D (VM cy ad st) (AM ad) sz r u') 0 0 (Ax (AM ad) sz) := by
  refine Met.ofW (cc := cX12_unit) (maxL := 3) (ret := (some .boolean)) (by decide) rfl ?_
  intro p e s m args below meth c s₁ B hml hv
  obtain ⟨rfl, hsz, hP, hK⟩ := hv
  subst hsz
  have C : Cx RX12 cX12_unit 3 (some .boolean) wsX12_unit p s m _ meth c := ⟨B.exec, B.bytes, hml, B.returns, findClass_of_methodNamed B.named, atoms_spec (ws := wsX12_unit) B.pre, B.notSynchronized⟩
  have hl := lv_entry ([.ref (ad 0)]) (n := 3) (Nat.le_of_ble_eq_true rfl)
  rw [lg_entry_eq]
  exact wX12_unit_0 C hK hJ hrc h hP va_S.rf hl

def rX12conditiong : Nat → Nat → Int32 → Int32 → SX → Option (Int32 × SX)
  | 0, _, _, _, _ => none
  | d + 1, t, a0, a1, u => (if t = 0 then fX12_condition_0 (rX12conditiong d) a0 a1 u else (if t = 1 then fX12_part_0 (rX12conditiong d) a0 a1 u else (if t = 2 then fX12_unit_0 (rX12conditiong d)  u else none)))
theorem hRX12conditiong_all (l : Launch) (D : va_G) (cy : Nat → ClassId) (ad st : Nat → Nat) (hJ : JM ad) : ∀ d, hRX12conditiong l D cy ad st (rX12conditiong d) d := by
  intro d
  induction d with
  | zero =>
    refine ⟨?_, ?_, ?_⟩
    · intro sz x1 x2 u r u' h
      exact absurd h (by intro q; cases q)
    · intro sz x1 x2 u r u' h
      exact absurd h (by intro q; cases q)
    · intro sz  u r u' h
      exact absurd h (by intro q; cases q)
  | succ d ih =>
    refine ⟨?_, ?_, ?_⟩
    · intro sz x1 x2 u r u' h
      rw [rX12conditiong] at h
      rw [if_pos rfl] at h
      exact metX12_condition_0 l D cy ad st hJ ih sz x1 x2 h
    · intro sz x1 x2 u r u' h
      rw [rX12conditiong] at h
      rw [if_neg (by decide)] at h; rw [if_pos rfl] at h
      exact metX12_part_0 l D cy ad st hJ ih sz x1 x2 h
    · intro sz  u r u' h
      rw [rX12conditiong] at h
      rw [if_neg (by decide)] at h; rw [if_neg (by decide)] at h; rw [if_pos rfl] at h
      exact metX12_unit_0 l D cy ad st hJ ih sz  h

theorem dX12_clause_131 : decode cX12_clause 131 = .ok (.aload_n 0, 1) := by decide +kernel
theorem dX12_clause_132 : decode cX12_clause 132 = .ok (.getfield 182, 3) := by decide +kernel
theorem dX12_clause_135 : decode cX12_clause 135 = .ok (.iconst (-1), 1) := by decide +kernel
theorem dX12_clause_136 : decode cX12_clause 136 = .ok (.if_icmp .ne 14, 3) := by decide +kernel
theorem dX12_clause_150 : decode cX12_clause 150 = .ok (.return_, 1) := by decide +kernel
theorem dX12_clause_139 : decode cX12_clause 139 = .ok (.aload_n 0, 1) := by decide +kernel
theorem dX12_clause_140 : decode cX12_clause 140 = .ok (.getfield 253, 3) := by decide +kernel
theorem dX12_clause_143 : decode cX12_clause 143 = .ok (.ifCond .ne 7, 3) := by decide +kernel
theorem dX12_clause_146 : decode cX12_clause 146 = .ok (.iload_n 2, 1) := by decide +kernel
theorem dX12_clause_147 : decode cX12_clause 147 = .ok (.ifCond .ne 4, 3) := by decide +kernel
theorem dX12_clause_151 : decode cX12_clause 151 = .ok (.aload_n 0, 1) := by decide +kernel
theorem dX12_clause_152 : decode cX12_clause 152 = .ok (.iconst 1, 1) := by decide +kernel
theorem dX12_clause_153 : decode cX12_clause 153 = .ok (.putfield 253, 3) := by decide +kernel
theorem dX12_clause_156 : decode cX12_clause 156 = .ok (.aload_n 0, 1) := by decide +kernel
theorem dX12_clause_157 : decode cX12_clause 157 = .ok (.iload_n 3, 1) := by decide +kernel
theorem dX12_clause_158 : decode cX12_clause 158 = .ok (.putfield 257, 3) := by decide +kernel
theorem dX12_clause_161 : decode cX12_clause 161 = .ok (.return_, 1) := by decide +kernel
theorem dX12_clause_61 : decode cX12_clause 61 = .ok (.aload_n 0, 1) := by decide +kernel
theorem dX12_clause_62 : decode cX12_clause 62 = .ok (.iconst 0, 1) := by decide +kernel
theorem dX12_clause_63 : decode cX12_clause 63 = .ok (.iconst 0, 1) := by decide +kernel
set_option maxRecDepth 20000 in
theorem ggX12_clause_X12_condition : GoodIn wsX12_clause wsX12_condition := goodIn_r _ [24, 2, 1, 25, 26, 27, 8, 5, 6, 7, 9, 10, 11, 12, 28, 29, 30, 31, 32, 33, 34, 35, 36, 37, 38, 39, 40, 41, 42, 43, 44, 45, 46, 47, 48, 49, 50, 51, 52, 53, 54, 55, 56, 57, 58, 59, 60, 61, 62, 63, 64, 65, 66, 67, 68, 69, 70, 71, 72, 73, 74, 75, 76, 77, 78, 79, 80, 81, 82, 83, 84, 85, 86, 87, 88, 89, 90, 91, 92, 93, 94, 95, 96, 97, 98, 99, 100, 101, 102, 103, 104, 105, 106, 107, 108, 109, 110, 111, 112, 113, 114, 115, 116, 117, 118, 119, 120, 121, 122, 123, 124, 125, 126, 127, 128, 129, 130, 131, 132, 133, 134, 135, 136, 137, 138, 139, 140, 141, 142, 143, 144, 145, 146, 147, 13, 14, 15, 16, 17, 18, 19, 20, 148, 149, 150, 151, 152, 153, 154, 155, 156, 157, 158, 159, 160, 161, 162, 21, 22, 23, 163, 164, 165, 166, 167, 168, 169, 170, 171, 172, 173, 174, 175, 176, 177, 178, 179, 180, 181, 182, 183, 184, 185, 186, 187, 188, 189, 190, 191, 192, 193, 194, 195, 196, 197, 198, 199, 200, 201, 202, 203, 204, 205, 206, 207, 208, 209, 210, 211, 212, 213, 214, 215, 216, 217, 218, 219, 220, 221, 222, 223, 224, 225, 226, 227, 228, 229, 230, 231] (by decide +kernel) (by decide +kernel)
set_option maxRecDepth 20000 in
theorem gX12_clause_X12_condition : GoodIn wsX12_clause (wsV RX12 243 RX12 yX12_condition wsX12_condition) := goodIn_app (goodIn_of _ (by decide +kernel)) ggX12_clause_X12_condition
theorem dX12_clause_64 : decode cX12_clause 64 = .ok (.invokevirtual 243, 3) := by decide +kernel
theorem dX12_clause_67 : decode cX12_clause 67 = .ok (.istore_n 2, 1) := by decide +kernel
theorem dX12_clause_68 : decode cX12_clause 68 = .ok (.aload_n 0, 1) := by decide +kernel
theorem dX12_clause_69 : decode cX12_clause 69 = .ok (.bipush 63, 2) := by decide +kernel
set_option maxRecDepth 20000 in
theorem ggX12_clause_X12_takes : GoodIn wsX12_clause wsX12_takes := goodIn_r _ [20, 2, 1, 5, 6, 7, 8, 9, 10, 11, 12, 13, 14, 15, 16, 163, 164, 165, 166, 167, 168, 169, 170, 171, 172, 173, 174, 175, 176, 177, 178, 179, 180, 181, 182, 183, 184, 185, 186, 187, 188, 189, 190, 191, 192, 193, 194, 195, 196, 197, 198, 199, 200, 201, 202, 203, 204, 205, 206, 207, 208, 209, 210, 211, 212, 213, 214, 215, 216, 217, 218, 219, 220, 221, 222, 223, 224, 225, 226, 227, 228, 229, 230, 231] (by decide +kernel) (by decide +kernel)
set_option maxRecDepth 20000 in
theorem gX12_clause_X12_takes : GoodIn wsX12_clause (wsV RX12 220 RX12 yX12_takes wsX12_takes) := goodIn_app (goodIn_of _ (by decide +kernel)) ggX12_clause_X12_takes
theorem dX12_clause_71 : decode cX12_clause 71 = .ok (.invokevirtual 220, 3) := by decide +kernel
theorem dX12_clause_74 : decode cX12_clause 74 = .ok (.ifCond .ne 4, 3) := by decide +kernel
theorem dX12_clause_78 : decode cX12_clause 78 = .ok (.aload_n 0, 1) := by decide +kernel
set_option maxRecDepth 20000 in
theorem ggX12_clause_X12_sum : GoodIn wsX12_clause wsX12_sum := goodIn_r _ [36, 2, 1, 37, 38, 39, 8, 5, 6, 7, 9, 10, 11, 12, 40, 41, 42, 43, 44, 45, 46, 47, 48, 49, 50, 51, 52, 53, 54, 55, 56, 57, 58, 59, 60, 61, 62, 63, 64, 65, 66, 67, 68, 69, 70, 71, 72, 73, 74, 75, 76, 77, 78, 79, 80, 81, 82, 83, 84, 85, 86, 87, 88, 89, 90, 91, 92, 93, 94, 95, 96, 97, 98, 99, 100, 101, 102, 103, 104, 105, 106, 107, 108, 109, 110, 111, 112, 113, 114, 115, 116, 117, 118, 119, 120, 121, 122, 123, 124, 125, 126, 127, 128, 129, 130, 131, 132, 133, 134, 135, 136, 137, 138, 139, 140, 141, 142, 143, 144, 145, 146, 147, 13, 14, 15, 16, 33, 34, 35, 17, 18, 19, 20, 148, 149, 150, 151, 152, 153, 154, 155, 163, 164, 165, 166, 167, 168, 169, 170, 171, 172, 173, 174, 175, 176, 177, 178, 179, 180, 181, 182, 183, 184, 185, 186, 187, 188, 189, 190, 191, 192, 193, 194, 195, 196, 197, 198, 199, 200, 201, 202, 203, 204, 205, 206, 207, 208, 209, 210, 211, 212, 213, 214, 215, 216, 217, 218, 219, 220, 221, 222, 223, 224, 225, 226, 227, 228, 229, 230, 231] (by decide +kernel) (by decide +kernel)
set_option maxRecDepth 20000 in
theorem gX12_clause_X12_sum : GoodIn wsX12_clause (wsV RX12 217 RX12 yX12_sum wsX12_sum) := goodIn_app (goodIn_of _ (by decide +kernel)) ggX12_clause_X12_sum
theorem dX12_clause_79 : decode cX12_clause 79 = .ok (.invokevirtual 217, 3) := by decide +kernel
theorem dX12_clause_82 : decode cX12_clause 82 = .ok (.istore_n 3, 1) := by decide +kernel
theorem dX12_clause_83 : decode cX12_clause 83 = .ok (.goto 48, 3) := by decide +kernel
theorem dX12_clause_77 : decode cX12_clause 77 = .ok (.return_, 1) := by decide +kernel
theorem dX12_clause_0 : decode cX12_clause 0 = .ok (.aload_n 0, 1) := by decide +kernel
set_option maxRecDepth 20000 in
theorem ggX12_clause_X12_look : GoodIn wsX12_clause wsX12_look := goodIn_r _ [9, 1, 10, 11, 12, 163, 164, 165, 166, 167, 168, 169, 170, 171, 172, 173, 174, 175, 176, 177, 178, 179, 180, 181, 182, 183, 184, 185, 186, 187, 188, 189, 190, 191, 192, 193, 194, 195, 196, 197, 198, 199, 200, 201, 202, 203, 204, 205, 206, 207, 208, 209, 210, 211, 212, 213, 214, 215, 216, 217, 218, 219, 220, 221, 222, 223, 224, 225, 226, 227, 228, 229, 230, 231] (by decide +kernel) (by decide +kernel)
set_option maxRecDepth 20000 in
theorem gX12_clause_X12_look : GoodIn wsX12_clause (wsV RX12 192 RX12 yX12_look wsX12_look) := goodIn_app (goodIn_of _ (by decide +kernel)) ggX12_clause_X12_look
theorem dX12_clause_1 : decode cX12_clause 1 = .ok (.invokevirtual 192, 3) := by decide +kernel
theorem dX12_clause_4 : decode cX12_clause 4 = .ok (.istore_n 1, 1) := by decide +kernel
theorem dX12_clause_5 : decode cX12_clause 5 = .ok (.iload_n 1, 1) := by decide +kernel
theorem dX12_clause_6 : decode cX12_clause 6 = .ok (.bipush 121, 2) := by decide +kernel
theorem dX12_clause_8 : decode cX12_clause 8 = .ok (.if_icmp .eq 9, 3) := by decide +kernel
theorem dX12_clause_17 : decode cX12_clause 17 = .ok (.aload_n 0, 1) := by decide +kernel
theorem dX12_clause_18 : decode cX12_clause 18 = .ok (.dup, 1) := by decide +kernel
theorem dX12_clause_19 : decode cX12_clause 19 = .ok (.getfield 173, 3) := by decide +kernel
theorem dX12_clause_22 : decode cX12_clause 22 = .ok (.iconst 1, 1) := by decide +kernel
theorem dX12_clause_23 : decode cX12_clause 23 = .ok (.iadd, 1) := by decide +kernel
theorem dX12_clause_24 : decode cX12_clause 24 = .ok (.putfield 173, 3) := by decide +kernel
theorem dX12_clause_27 : decode cX12_clause 27 = .ok (.aload_n 0, 1) := by decide +kernel
theorem dX12_clause_28 : decode cX12_clause 28 = .ok (.bipush 58, 2) := by decide +kernel
theorem dX12_clause_30 : decode cX12_clause 30 = .ok (.invokevirtual 220, 3) := by decide +kernel
theorem dX12_clause_33 : decode cX12_clause 33 = .ok (.ifCond .ne 4, 3) := by decide +kernel
theorem dX12_clause_37 : decode cX12_clause 37 = .ok (.iconst 1, 1) := by decide +kernel
theorem dX12_clause_38 : decode cX12_clause 38 = .ok (.istore_n 2, 1) := by decide +kernel
theorem dX12_clause_39 : decode cX12_clause 39 = .ok (.iconst 0, 1) := by decide +kernel
theorem dX12_clause_40 : decode cX12_clause 40 = .ok (.istore_n 3, 1) := by decide +kernel
theorem dX12_clause_41 : decode cX12_clause 41 = .ok (.aload_n 0, 1) := by decide +kernel
theorem dX12_clause_42 : decode cX12_clause 42 = .ok (.invokevirtual 192, 3) := by decide +kernel
theorem dX12_clause_45 : decode cX12_clause 45 = .ok (.istore 4, 2) := by decide +kernel
theorem dX12_clause_47 : decode cX12_clause 47 = .ok (.iload 4, 2) := by decide +kernel
theorem dX12_clause_49 : decode cX12_clause 49 = .ok (.bipush 33, 2) := by decide +kernel
theorem dX12_clause_51 : decode cX12_clause 51 = .ok (.if_icmp .eq 10, 3) := by decide +kernel
theorem dX12_clause_54 : decode cX12_clause 54 = .ok (.iload 4, 2) := by decide +kernel
theorem dX12_clause_56 : decode cX12_clause 56 = .ok (.bipush 40, 2) := by decide +kernel
theorem dX12_clause_58 : decode cX12_clause 58 = .ok (.if_icmp .ne 28, 3) := by decide +kernel
theorem dX12_clause_86 : decode cX12_clause 86 = .ok (.aload_n 0, 1) := by decide +kernel
theorem dX12_clause_87 : decode cX12_clause 87 = .ok (.invokevirtual 217, 3) := by decide +kernel
theorem dX12_clause_90 : decode cX12_clause 90 = .ok (.istore_n 3, 1) := by decide +kernel
theorem dX12_clause_91 : decode cX12_clause 91 = .ok (.aload_n 0, 1) := by decide +kernel
theorem dX12_clause_92 : decode cX12_clause 92 = .ok (.getfield 182, 3) := by decide +kernel
theorem dX12_clause_95 : decode cX12_clause 95 = .ok (.iconst (-1), 1) := by decide +kernel
theorem dX12_clause_96 : decode cX12_clause 96 = .ok (.if_icmp .ne 35, 3) := by decide +kernel
theorem dX12_clause_99 : decode cX12_clause 99 = .ok (.aload_n 0, 1) := by decide +kernel
theorem dX12_clause_100 : decode cX12_clause 100 = .ok (.invokevirtual 192, 3) := by decide +kernel
set_option maxRecDepth 20000 in
theorem ggX12_clause_X12_isSign : GoodIn wsX12_clause wsX12_isSign := goodIn_r _ [158] (by decide +kernel) (by decide +kernel)
set_option maxRecDepth 20000 in
theorem gX12_clause_X12_isSign : GoodIn wsX12_clause (va_wsS RX12 237 yX12_isSign wsX12_isSign) := goodIn_app (goodIn_of _ (by decide +kernel)) ggX12_clause_X12_isSign
theorem dX12_clause_103 : decode cX12_clause 103 = .ok (.invokestatic 237, 3) := by decide +kernel
theorem dX12_clause_106 : decode cX12_clause 106 = .ok (.ifCond .eq 25, 3) := by decide +kernel
theorem dX12_clause_109 : decode cX12_clause 109 = .ok (.aload_n 0, 1) := by decide +kernel
theorem dX12_clause_110 : decode cX12_clause 110 = .ok (.iconst 1, 1) := by decide +kernel
theorem dX12_clause_111 : decode cX12_clause 111 = .ok (.iload_n 3, 1) := by decide +kernel
theorem dX12_clause_112 : decode cX12_clause 112 = .ok (.invokevirtual 243, 3) := by decide +kernel
theorem dX12_clause_115 : decode cX12_clause 115 = .ok (.istore_n 2, 1) := by decide +kernel
theorem dX12_clause_116 : decode cX12_clause 116 = .ok (.aload_n 0, 1) := by decide +kernel
theorem dX12_clause_117 : decode cX12_clause 117 = .ok (.bipush 63, 2) := by decide +kernel
theorem dX12_clause_119 : decode cX12_clause 119 = .ok (.invokevirtual 220, 3) := by decide +kernel
theorem dX12_clause_122 : decode cX12_clause 122 = .ok (.ifCond .ne 4, 3) := by decide +kernel
theorem dX12_clause_126 : decode cX12_clause 126 = .ok (.aload_n 0, 1) := by decide +kernel
theorem dX12_clause_127 : decode cX12_clause 127 = .ok (.invokevirtual 217, 3) := by decide +kernel
theorem dX12_clause_130 : decode cX12_clause 130 = .ok (.istore_n 3, 1) := by decide +kernel
theorem dX12_clause_125 : decode cX12_clause 125 = .ok (.return_, 1) := by decide +kernel
theorem dX12_clause_36 : decode cX12_clause 36 = .ok (.return_, 1) := by decide +kernel
theorem dX12_clause_11 : decode cX12_clause 11 = .ok (.aload_n 0, 1) := by decide +kernel
set_option maxRecDepth 20000 in
theorem ggX12_clause_X12_fails : GoodIn wsX12_clause wsX12_fails := goodIn_r _ [16, 2, 1, 163, 164, 165, 166, 167, 168, 169, 170, 171, 172, 173, 174, 175, 176, 177, 178, 179, 180, 181, 182, 183, 184, 185, 186, 187, 188, 189, 190, 191, 192, 193, 194, 195, 196, 197, 198, 199, 200, 201, 202, 203, 204, 205, 206, 207, 208, 209, 210, 211, 212, 213, 214, 215, 216, 217, 218, 219, 220, 221, 222, 223, 224, 225, 226, 227, 228, 229, 230, 231] (by decide +kernel) (by decide +kernel)
set_option maxRecDepth 20000 in
theorem gX12_clause_X12_fails : GoodIn wsX12_clause (wsV RX12 188 RX12 yX12_fails wsX12_fails) := goodIn_app (goodIn_of _ (by decide +kernel)) ggX12_clause_X12_fails
theorem dX12_clause_12 : decode cX12_clause 12 = .ok (.invokevirtual 188, 3) := by decide +kernel
theorem dX12_clause_15 : decode cX12_clause 15 = .ok (.pop, 1) := by decide +kernel
theorem dX12_clause_16 : decode cX12_clause 16 = .ok (.return_, 1) := by decide +kernel
/-- HissHornModel.clause()V of cell 0 -/
def rmX12_clause_0 : Room := { frames := 133, cells := 0, slots := 0, locals := 8306 }
theorem hX12_clause_0_X12 : ∀ w ∈ u_ws RX12 TX12 69, w ∈ wsX12_clause := fun w h => (List.mem_cons_of_mem _ (List.mem_append_right _ h))
theorem mX12_clause_0_1 : Cond.fieldLink RX12 173 "HissHornModel" "at" "I" ∈ wsX12_clause := (List.mem_cons_of_mem _ (List.mem_append_left _ (List.mem_append_left _ (List.mem_of_getElem? (i := 0) rfl))))
theorem mX12_clause_0_2 : Cond.fieldLink RX12 182 "HissHornModel" "fault" "I" ∈ wsX12_clause := (List.mem_cons_of_mem _ (List.mem_append_left _ (List.mem_append_left _ (List.mem_of_getElem? (i := 1) rfl))))
theorem mX12_clause_0_3 : Cond.fieldLink RX12 253 "HissHornModel" "hasFound" "Z" ∈ wsX12_clause := (List.mem_cons_of_mem _ (List.mem_append_left _ (List.mem_append_left _ (List.mem_of_getElem? (i := 2) rfl))))
theorem mX12_clause_0_4 : Cond.fieldLink RX12 257 "HissHornModel" "found" "I" ∈ wsX12_clause := (List.mem_cons_of_mem _ (List.mem_append_left _ (List.mem_append_left _ (List.mem_of_getElem? (i := 3) rfl))))
def GX12_clause_0_131 (z2 : Int32) (z3 : Int32) (u : SX) : Option (Int32 × SX) := (if (u.1 7) = (-1) then (if (u.1 11) = 0 then (if z2 = 0 then (some (0, u)) else (gd (isB 1) (lt (sI u 11 1) fun u22 => (lt (sI u22 9 z3) fun u24 => (some (0, u24)))))) else (some (0, u))) else (some (0, u)))
def GX12_clause_0_61  (u : SX) : Option (Int32 × SX) := ((rX12conditiong 64 0 0 0 u).bind fun q => match q with | (r12, u13) => ((fX12_takes_0 63 u13).bind fun q => match q with | (r15, u16) => (if r15 = 0 then (some (0, u16)) else ((rX12sumg 64 0  0 u16).bind fun q => match q with | (r18, u19) => (GX12_clause_0_131 r12 r18 u19)))))
def fX12_clause_0  (u : SX) : Option (Int32 × SX) := ((fX12_look_0  u).bind fun q => match q with | (r1, u2) => (if r1 = 121 then (lt (sI u2 6 ((u2.1 6) + 1)) fun u4 => ((fX12_takes_0 58 u4).bind fun q => match q with | (r6, u7) => (if r6 = 0 then (some (0, u7)) else ((fX12_look_0  u7).bind fun q => match q with | (r9, u10) => (if r9 = 33 then (GX12_clause_0_61 u10) else (if r9 = 40 then (GX12_clause_0_61 u10) else ((rX12sumg 64 0  0 u10).bind fun q => match q with | (r26, u27) => (if (u27.1 7) = (-1) then ((fX12_look_0  u27).bind fun q => match q with | (r29, u30) => ((fX12_isSign r29).bind fun r32 => (if r32 = 0 then (GX12_clause_0_131 1 r26 u30) else ((rX12conditiong 64 0 1 r26 u30).bind fun q => match q with | (r35, u36) => ((fX12_takes_0 63 u36).bind fun q => match q with | (r38, u39) => (if r38 = 0 then (some (0, u39)) else ((rX12sumg 64 0  0 u39).bind fun q => match q with | (r41, u42) => (GX12_clause_0_131 r35 r41 u42)))))))) else (GX12_clause_0_131 1 r26 u27))))))))) else ((fX12_fails_0  u2).bind fun q => match q with | (r44, u45) => (some (0, u45)))))
set_option maxHeartbeats 4000000 in
set_option maxRecDepth 100000 in
theorem wGX12_clause_0_131 {p : Program} {l : Launch} {e : Env} {s : State} {m : MethodId} {args : Array Value} {below : List Frame} {meth : Method} {c : Code} {D : va_G} {cy : Nat → ClassId} {ad st : Nat → Nat} (C : Cx RX12 cX12_clause 5 none wsX12_clause p s m args meth c) (hK : Kx D [(cy 0, .int), (cy 1, .long), (cy 2, .boolean), (cy 3, .byte), (cy 4, .object "HissHorn$Text")] st s) (hJ : JM ad) {r : Int32} {u' : SX}   (z2 : Int32) (z3 : Int32) (u : SX) (H : Heap) (locs : List Loc) (ls : Array Slot) (h : GX12_clause_0_131 z2 z3 u = some (r, u')) (hP : va_P D vwCl (VM cy ad st u) H) (hS : va_S (Ax (AM ad) s.heap.size) s.heap H locs) (hl : lv_has ls 5 [(0, .ref (ad 0)), (2, .int z2), (3, .int z3)]) : W p l e rmX12_clause_0 s m args below meth c H locs 0 0 (MQ below (Qv D (VM cy ad st) (AM ad) s.heap.size r u') args s 0 0 (Ax (AM ad) s.heap.size)) (F0 m 131 ls []) := by
  unfold GX12_clause_0_131 at h
  refine lv_aload_n C.1 C.2.1 dX12_clause_131 rfl (lv_at hl 0 rfl) ?_
  refine gM_0_fault C hX12_clause_0_X12 hK hP mX12_clause_0_2 dX12_clause_132 ?_
  refine lv_iconst (v := (-1)) C.1 C.2.1 dX12_clause_135 (by decide) ?_
  refine lv_icmp_ne (tgt := 150) C.1 C.2.1 dX12_clause_136 (by decide) (fun c136 => ?_) (fun c136 => ?_)
  · rw [if_neg c136] at h
    cases h
    exact rt_v C hP hS dX12_clause_150
  · rw [if_pos c136] at h
    refine lv_aload_n C.1 C.2.1 dX12_clause_139 rfl (lv_at hl 0 rfl) ?_
    refine gM_0_hasFound C hX12_clause_0_X12 hK hP mX12_clause_0_3 dX12_clause_140 ?_
    refine lv_if_ne (tgt := 150) C.1 C.2.1 dX12_clause_143 (by decide) (fun c143 => ?_) (fun c143 => ?_)
    · rw [if_neg c143] at h
      cases h
      exact rt_v C hP hS dX12_clause_150
    · rw [if_pos c143] at h
      refine lv_iload_n C.1 C.2.1 dX12_clause_146 rfl (lv_at hl 1 rfl) ?_
      refine lv_if_ne (tgt := 151) C.1 C.2.1 dX12_clause_147 (by decide) (fun c147 => ?_) (fun c147 => ?_)
      · rw [if_neg c147] at h
        refine lv_aload_n C.1 C.2.1 dX12_clause_151 rfl (lv_at hl 0 rfl) ?_
        refine lv_iconst (v := 1) C.1 C.2.1 dX12_clause_152 (by decide) ?_
        obtain ⟨hg21, h⟩ := gd_some h
        refine pM_0_hasFound hg21 C hX12_clause_0_X12 hK hP hJ hS mX12_clause_0_3 dX12_clause_153 (fun H locs hP hS => ?_)
        obtain ⟨u22, hu23, h⟩ := lt_some h
        rw [← hu23] at hP
        refine lv_aload_n C.1 C.2.1 dX12_clause_156 rfl (lv_at hl 0 rfl) ?_
        refine lv_iload_n C.1 C.2.1 dX12_clause_157 rfl (lv_at hl 2 rfl) ?_
        refine pM_0_found C hX12_clause_0_X12 hK hP hJ hS mX12_clause_0_4 dX12_clause_158 (fun H locs hP hS => ?_)
        obtain ⟨u24, hu25, h⟩ := lt_some h
        rw [← hu25] at hP
        cases h
        exact rt_v C hP hS dX12_clause_161
      · rw [if_pos c147] at h
        cases h
        exact rt_v C hP hS dX12_clause_150
set_option maxHeartbeats 4000000 in
set_option maxRecDepth 100000 in
theorem wGX12_clause_0_61 {p : Program} {l : Launch} {e : Env} {s : State} {m : MethodId} {args : Array Value} {below : List Frame} {meth : Method} {c : Code} {D : va_G} {cy : Nat → ClassId} {ad st : Nat → Nat} (C : Cx RX12 cX12_clause 5 none wsX12_clause p s m args meth c) (hK : Kx D [(cy 0, .int), (cy 1, .long), (cy 2, .boolean), (cy 3, .byte), (cy 4, .object "HissHorn$Text")] st s) (hJ : JM ad) {r : Int32} {u' : SX}   (u : SX) (H : Heap) (locs : List Loc) (ls : Array Slot) (h : GX12_clause_0_61  u = some (r, u')) (hP : va_P D vwCl (VM cy ad st u) H) (hS : va_S (Ax (AM ad) s.heap.size) s.heap H locs) (hl : lv_has ls 5 [(0, .ref (ad 0))]) : W p l e rmX12_clause_0 s m args below meth c H locs 0 0 (MQ below (Qv D (VM cy ad st) (AM ad) s.heap.size r u') args s 0 0 (Ax (AM ad) s.heap.size)) (F0 m 61 ls []) := by
  unfold GX12_clause_0_61 at h
  refine lv_aload_n C.1 C.2.1 dX12_clause_61 rfl (lv_at hl 0 rfl) ?_
  refine lv_iconst (v := 0) C.1 C.2.1 dX12_clause_62 (by decide) ?_
  refine lv_iconst (v := 0) C.1 C.2.1 dX12_clause_63 (by decide) ?_
  obtain ⟨⟨r12, u13⟩, hc14, h⟩ := bd_some h
  try dsimp only at h
  refine cg_i (As := [.int 0, .int 0]) (rest := []) C hK hP hS ((hRX12conditiong_all l D cy ad st hJ 64).1 _ 0 0 _ _ _ hc14) (cwV 2 C.2.2.2.2.2.1 gX12_clause_X12_condition rfl rfl rfl (by decide +kernel) ⟨(Nat.le_of_ble_eq_true rfl), (Nat.le_of_ble_eq_true rfl)⟩) 0 12 rfl rfl rfl hl.1 rfl (Nat.le_of_ble_eq_true rfl) dX12_clause_64 ⟨Nat.zero_le _, Nat.zero_le _⟩ (fun H locs hP hS => ?_)
  refine lv_istore_n (lv' := [(2, .int r12), (0, .ref (ad 0))]) C.1 C.2.1 dX12_clause_67 rfl hl (by decide) rfl (fun ls hl => ?_)
  replace hl := lv_sub (l' := [(0, .ref (ad 0)), (2, .int r12)]) hl [1, 0] rfl
  refine lv_aload_n C.1 C.2.1 dX12_clause_68 rfl (lv_at hl 0 rfl) ?_
  refine lv_bipush (v := 63) C.1 C.2.1 dX12_clause_69 (by decide) ?_
  obtain ⟨⟨r15, u16⟩, hc17, h⟩ := bd_some h
  try dsimp only at h
  refine cg_i (As := [.int 63]) (rest := []) C hK hP hS (metX12_takes_0 l D cy ad st hJ _ 63 hc17) (cwV 1 C.2.2.2.2.2.1 gX12_clause_X12_takes rfl rfl rfl (by decide +kernel) ⟨(Nat.le_of_ble_eq_true rfl), (Nat.le_of_ble_eq_true rfl)⟩) 0 12 rfl rfl rfl hl.1 rfl (Nat.le_of_ble_eq_true rfl) dX12_clause_71 ⟨Nat.zero_le _, Nat.zero_le _⟩ (fun H locs hP hS => ?_)
  refine lv_if_ne (tgt := 78) C.1 C.2.1 dX12_clause_74 (by decide) (fun c74 => ?_) (fun c74 => ?_)
  · rw [if_neg c74] at h
    refine lv_aload_n C.1 C.2.1 dX12_clause_78 rfl (lv_at hl 0 rfl) ?_
    obtain ⟨⟨r18, u19⟩, hc20, h⟩ := bd_some h
    try dsimp only at h
    refine cg_i (As := []) (rest := []) C hK hP hS ((hRX12sumg_all l D cy ad st hJ 64).1 _  _ _ _ hc20) (cwV 0 C.2.2.2.2.2.1 gX12_clause_X12_sum rfl rfl rfl (by decide +kernel) ⟨(Nat.le_of_ble_eq_true rfl), (Nat.le_of_ble_eq_true rfl)⟩) 0 12 rfl rfl rfl hl.1 rfl (Nat.le_of_ble_eq_true rfl) dX12_clause_79 ⟨Nat.zero_le _, Nat.zero_le _⟩ (fun H locs hP hS => ?_)
    refine lv_istore_n (lv' := [(3, .int r18), (0, .ref (ad 0)), (2, .int r12)]) C.1 C.2.1 dX12_clause_82 rfl hl (by decide) rfl (fun ls hl => ?_)
    replace hl := lv_sub (l' := [(0, .ref (ad 0)), (2, .int r12), (3, .int r18)]) hl [1, 2, 0] rfl
    refine lv_goto (tgt := 131) C.1 C.2.1 dX12_clause_83 (by decide) ?_
    exact wGX12_clause_0_131 C hK hJ _ _ _ _ _ _ h hP hS hl
  · rw [if_pos c74] at h
    cases h
    exact rt_v C hP hS dX12_clause_77
set_option maxHeartbeats 4000000 in
set_option maxRecDepth 100000 in
theorem wX12_clause_0 {p : Program} {l : Launch} {e : Env} {s : State} {m : MethodId} {args : Array Value} {below : List Frame} {meth : Method} {c : Code} {D : va_G} {cy : Nat → ClassId} {ad st : Nat → Nat} (C : Cx RX12 cX12_clause 5 none wsX12_clause p s m args meth c) (hK : Kx D [(cy 0, .int), (cy 1, .long), (cy 2, .boolean), (cy 3, .byte), (cy 4, .object "HissHorn$Text")] st s) (hJ : JM ad)  {u : SX} {r : Int32} {u' : SX} {H : Heap} {locs : List Loc} {ls : Array Slot} (h : fX12_clause_0  u = some (r, u')) (hP : va_P D vwCl (VM cy ad st u) H) (hS : va_S (Ax (AM ad) s.heap.size) s.heap H locs) (hl : lv_has ls 5 [(0, .ref (ad 0))]) : W p l e rmX12_clause_0 s m args below meth c H locs 0 0 (MQ below (Qv D (VM cy ad st) (AM ad) s.heap.size r u') args s 0 0 (Ax (AM ad) s.heap.size)) (F0 m 0 ls []) := by
  unfold fX12_clause_0 at h
  refine lv_aload_n C.1 C.2.1 dX12_clause_0 rfl (lv_at hl 0 rfl) ?_
  obtain ⟨⟨r1, u2⟩, hc3, h⟩ := bd_some h
  try dsimp only at h
  refine cg_i (As := []) (rest := []) C hK hP hS (metX12_look_0 l D cy ad st hJ _  hc3) (cwV 0 C.2.2.2.2.2.1 gX12_clause_X12_look rfl rfl rfl (by decide +kernel) ⟨(Nat.le_of_ble_eq_true rfl), (Nat.le_of_ble_eq_true rfl)⟩) 0 12 rfl rfl rfl hl.1 rfl (Nat.le_of_ble_eq_true rfl) dX12_clause_1 ⟨Nat.zero_le _, Nat.zero_le _⟩ (fun H locs hP hS => ?_)
  refine lv_istore_n (lv' := [(1, .int r1), (0, .ref (ad 0))]) C.1 C.2.1 dX12_clause_4 rfl hl (by decide) rfl (fun ls hl => ?_)
  replace hl := lv_sub (l' := [(0, .ref (ad 0)), (1, .int r1)]) hl [1, 0] rfl
  refine lv_iload_n C.1 C.2.1 dX12_clause_5 rfl (lv_at hl 1 rfl) ?_
  refine lv_bipush (v := 121) C.1 C.2.1 dX12_clause_6 (by decide) ?_
  refine lv_icmp_eq (tgt := 17) C.1 C.2.1 dX12_clause_8 (by decide) (fun c8 => ?_) (fun c8 => ?_)
  · rw [if_pos c8] at h
    refine lv_aload_n C.1 C.2.1 dX12_clause_17 rfl (lv_at hl 0 rfl) ?_
    refine lv_dup C.1 C.2.1 dX12_clause_18 rfl ?_
    refine gM_0_at C hX12_clause_0_X12 hK hP mX12_clause_0_1 dX12_clause_19 ?_
    refine lv_iconst (v := 1) C.1 C.2.1 dX12_clause_22 (by decide) ?_
    refine lv_iadd C.1 C.2.1 dX12_clause_23 ?_
    refine pM_0_at C hX12_clause_0_X12 hK hP hJ hS mX12_clause_0_1 dX12_clause_24 (fun H locs hP hS => ?_)
    obtain ⟨u4, hu5, h⟩ := lt_some h
    rw [← hu5] at hP
    refine lv_aload_n C.1 C.2.1 dX12_clause_27 rfl (lv_at hl 0 rfl) ?_
    refine lv_bipush (v := 58) C.1 C.2.1 dX12_clause_28 (by decide) ?_
    obtain ⟨⟨r6, u7⟩, hc8, h⟩ := bd_some h
    try dsimp only at h
    refine cg_i (As := [.int 58]) (rest := []) C hK hP hS (metX12_takes_0 l D cy ad st hJ _ 58 hc8) (cwV 1 C.2.2.2.2.2.1 gX12_clause_X12_takes rfl rfl rfl (by decide +kernel) ⟨(Nat.le_of_ble_eq_true rfl), (Nat.le_of_ble_eq_true rfl)⟩) 0 12 rfl rfl rfl hl.1 rfl (Nat.le_of_ble_eq_true rfl) dX12_clause_30 ⟨Nat.zero_le _, Nat.zero_le _⟩ (fun H locs hP hS => ?_)
    refine lv_if_ne (tgt := 37) C.1 C.2.1 dX12_clause_33 (by decide) (fun c33 => ?_) (fun c33 => ?_)
    · rw [if_neg c33] at h
      refine lv_iconst (v := 1) C.1 C.2.1 dX12_clause_37 (by decide) ?_
      refine lv_istore_n (lv' := [(2, .int 1), (0, .ref (ad 0)), (1, .int r1)]) C.1 C.2.1 dX12_clause_38 rfl hl (by decide) rfl (fun ls hl => ?_)
      replace hl := lv_sub (l' := [(0, .ref (ad 0)), (1, .int r1), (2, .int 1)]) hl [1, 2, 0] rfl
      refine lv_iconst (v := 0) C.1 C.2.1 dX12_clause_39 (by decide) ?_
      refine lv_istore_n (lv' := [(3, .int 0), (0, .ref (ad 0)), (1, .int r1), (2, .int 1)]) C.1 C.2.1 dX12_clause_40 rfl hl (by decide) rfl (fun ls hl => ?_)
      replace hl := lv_sub (l' := [(0, .ref (ad 0)), (1, .int r1), (2, .int 1), (3, .int 0)]) hl [1, 2, 3, 0] rfl
      refine lv_aload_n C.1 C.2.1 dX12_clause_41 rfl (lv_at hl 0 rfl) ?_
      obtain ⟨⟨r9, u10⟩, hc11, h⟩ := bd_some h
      try dsimp only at h
      refine cg_i (As := []) (rest := []) C hK hP hS (metX12_look_0 l D cy ad st hJ _  hc11) (cwV 0 C.2.2.2.2.2.1 gX12_clause_X12_look rfl rfl rfl (by decide +kernel) ⟨(Nat.le_of_ble_eq_true rfl), (Nat.le_of_ble_eq_true rfl)⟩) 0 12 rfl rfl rfl hl.1 rfl (Nat.le_of_ble_eq_true rfl) dX12_clause_42 ⟨Nat.zero_le _, Nat.zero_le _⟩ (fun H locs hP hS => ?_)
      refine lv_istore (lv' := [(4, .int r9), (0, .ref (ad 0)), (1, .int r1), (2, .int 1), (3, .int 0)]) C.1 C.2.1 dX12_clause_45 hl (by decide) rfl (fun ls hl => ?_)
      replace hl := lv_sub (l' := [(0, .ref (ad 0)), (1, .int r1), (2, .int 1), (3, .int 0), (4, .int r9)]) hl [1, 2, 3, 4, 0] rfl
      refine lv_iload C.1 C.2.1 dX12_clause_47 (lv_at hl 4 rfl) ?_
      refine lv_bipush (v := 33) C.1 C.2.1 dX12_clause_49 (by decide) ?_
      refine lv_icmp_eq (tgt := 61) C.1 C.2.1 dX12_clause_51 (by decide) (fun c51 => ?_) (fun c51 => ?_)
      · rw [if_pos c51] at h
        exact wGX12_clause_0_61 C hK hJ _ _ _ _ h hP hS (lv_sub hl [0] rfl)
      · rw [if_neg c51] at h
        refine lv_iload C.1 C.2.1 dX12_clause_54 (lv_at hl 4 rfl) ?_
        refine lv_bipush (v := 40) C.1 C.2.1 dX12_clause_56 (by decide) ?_
        refine lv_icmp_ne (tgt := 86) C.1 C.2.1 dX12_clause_58 (by decide) (fun c58 => ?_) (fun c58 => ?_)
        · rw [if_neg c58] at h
          refine lv_aload_n C.1 C.2.1 dX12_clause_86 rfl (lv_at hl 0 rfl) ?_
          obtain ⟨⟨r26, u27⟩, hc28, h⟩ := bd_some h
          try dsimp only at h
          refine cg_i (As := []) (rest := []) C hK hP hS ((hRX12sumg_all l D cy ad st hJ 64).1 _  _ _ _ hc28) (cwV 0 C.2.2.2.2.2.1 gX12_clause_X12_sum rfl rfl rfl (by decide +kernel) ⟨(Nat.le_of_ble_eq_true rfl), (Nat.le_of_ble_eq_true rfl)⟩) 0 12 rfl rfl rfl hl.1 rfl (Nat.le_of_ble_eq_true rfl) dX12_clause_87 ⟨Nat.zero_le _, Nat.zero_le _⟩ (fun H locs hP hS => ?_)
          refine lv_istore_n (lv' := [(3, .int r26), (0, .ref (ad 0)), (1, .int r1), (2, .int 1), (4, .int r9)]) C.1 C.2.1 dX12_clause_90 rfl hl (by decide) rfl (fun ls hl => ?_)
          replace hl := lv_sub (l' := [(0, .ref (ad 0)), (1, .int r1), (2, .int 1), (3, .int r26), (4, .int r9)]) hl [1, 2, 3, 0, 4] rfl
          refine lv_aload_n C.1 C.2.1 dX12_clause_91 rfl (lv_at hl 0 rfl) ?_
          refine gM_0_fault C hX12_clause_0_X12 hK hP mX12_clause_0_2 dX12_clause_92 ?_
          refine lv_iconst (v := (-1)) C.1 C.2.1 dX12_clause_95 (by decide) ?_
          refine lv_icmp_ne (tgt := 131) C.1 C.2.1 dX12_clause_96 (by decide) (fun c96 => ?_) (fun c96 => ?_)
          · rw [if_neg c96] at h
            exact wGX12_clause_0_131 C hK hJ _ _ _ _ _ _ h hP hS (lv_sub hl [0, 2, 3] rfl)
          · rw [if_pos c96] at h
            refine lv_aload_n C.1 C.2.1 dX12_clause_99 rfl (lv_at hl 0 rfl) ?_
            obtain ⟨⟨r29, u30⟩, hc31, h⟩ := bd_some h
            try dsimp only at h
            refine cg_i (As := []) (rest := []) C hK hP hS (metX12_look_0 l D cy ad st hJ _  hc31) (cwV 0 C.2.2.2.2.2.1 gX12_clause_X12_look rfl rfl rfl (by decide +kernel) ⟨(Nat.le_of_ble_eq_true rfl), (Nat.le_of_ble_eq_true rfl)⟩) 0 12 rfl rfl rfl hl.1 rfl (Nat.le_of_ble_eq_true rfl) dX12_clause_100 ⟨Nat.zero_le _, Nat.zero_le _⟩ (fun H locs hP hS => ?_)
            obtain ⟨r32, hc34, h⟩ := bd_some h
            refine cs_i (As := [.int r29]) (rest := []) C hK hP hS (metX12_isSign l D cy st _ r29 hc34) (va_cwS 1 C.2.2.2.2.2.1 gX12_clause_X12_isSign rfl rfl rfl (by decide +kernel) ⟨(Nat.le_of_ble_eq_true rfl), (Nat.le_of_ble_eq_true rfl)⟩) rfl hl.1 rfl (Nat.le_of_ble_eq_true rfl) dX12_clause_103 ⟨Nat.zero_le _, Nat.zero_le _⟩ (fun H locs hP hS => ?_)
            refine lv_if_eq (tgt := 131) C.1 C.2.1 dX12_clause_106 (by decide) (fun c106 => ?_) (fun c106 => ?_)
            · rw [if_pos c106] at h
              exact wGX12_clause_0_131 C hK hJ _ _ _ _ _ _ h hP hS (lv_sub hl [0, 2, 3] rfl)
            · rw [if_neg c106] at h
              refine lv_aload_n C.1 C.2.1 dX12_clause_109 rfl (lv_at hl 0 rfl) ?_
              refine lv_iconst (v := 1) C.1 C.2.1 dX12_clause_110 (by decide) ?_
              refine lv_iload_n C.1 C.2.1 dX12_clause_111 rfl (lv_at hl 3 rfl) ?_
              obtain ⟨⟨r35, u36⟩, hc37, h⟩ := bd_some h
              try dsimp only at h
              refine cg_i (As := [.int 1, .int r26]) (rest := []) C hK hP hS ((hRX12conditiong_all l D cy ad st hJ 64).1 _ 1 r26 _ _ _ hc37) (cwV 2 C.2.2.2.2.2.1 gX12_clause_X12_condition rfl rfl rfl (by decide +kernel) ⟨(Nat.le_of_ble_eq_true rfl), (Nat.le_of_ble_eq_true rfl)⟩) 0 12 rfl rfl rfl hl.1 rfl (Nat.le_of_ble_eq_true rfl) dX12_clause_112 ⟨Nat.zero_le _, Nat.zero_le _⟩ (fun H locs hP hS => ?_)
              refine lv_istore_n (lv' := [(2, .int r35), (0, .ref (ad 0)), (1, .int r1), (3, .int r26), (4, .int r9)]) C.1 C.2.1 dX12_clause_115 rfl hl (by decide) rfl (fun ls hl => ?_)
              replace hl := lv_sub (l' := [(0, .ref (ad 0)), (1, .int r1), (2, .int r35), (3, .int r26), (4, .int r9)]) hl [1, 2, 0, 3, 4] rfl
              refine lv_aload_n C.1 C.2.1 dX12_clause_116 rfl (lv_at hl 0 rfl) ?_
              refine lv_bipush (v := 63) C.1 C.2.1 dX12_clause_117 (by decide) ?_
              obtain ⟨⟨r38, u39⟩, hc40, h⟩ := bd_some h
              try dsimp only at h
              refine cg_i (As := [.int 63]) (rest := []) C hK hP hS (metX12_takes_0 l D cy ad st hJ _ 63 hc40) (cwV 1 C.2.2.2.2.2.1 gX12_clause_X12_takes rfl rfl rfl (by decide +kernel) ⟨(Nat.le_of_ble_eq_true rfl), (Nat.le_of_ble_eq_true rfl)⟩) 0 12 rfl rfl rfl hl.1 rfl (Nat.le_of_ble_eq_true rfl) dX12_clause_119 ⟨Nat.zero_le _, Nat.zero_le _⟩ (fun H locs hP hS => ?_)
              refine lv_if_ne (tgt := 126) C.1 C.2.1 dX12_clause_122 (by decide) (fun c122 => ?_) (fun c122 => ?_)
              · rw [if_neg c122] at h
                refine lv_aload_n C.1 C.2.1 dX12_clause_126 rfl (lv_at hl 0 rfl) ?_
                obtain ⟨⟨r41, u42⟩, hc43, h⟩ := bd_some h
                try dsimp only at h
                refine cg_i (As := []) (rest := []) C hK hP hS ((hRX12sumg_all l D cy ad st hJ 64).1 _  _ _ _ hc43) (cwV 0 C.2.2.2.2.2.1 gX12_clause_X12_sum rfl rfl rfl (by decide +kernel) ⟨(Nat.le_of_ble_eq_true rfl), (Nat.le_of_ble_eq_true rfl)⟩) 0 12 rfl rfl rfl hl.1 rfl (Nat.le_of_ble_eq_true rfl) dX12_clause_127 ⟨Nat.zero_le _, Nat.zero_le _⟩ (fun H locs hP hS => ?_)
                refine lv_istore_n (lv' := [(3, .int r41), (0, .ref (ad 0)), (1, .int r1), (2, .int r35), (4, .int r9)]) C.1 C.2.1 dX12_clause_130 rfl hl (by decide) rfl (fun ls hl => ?_)
                replace hl := lv_sub (l' := [(0, .ref (ad 0)), (1, .int r1), (2, .int r35), (3, .int r41), (4, .int r9)]) hl [1, 2, 3, 0, 4] rfl
                exact wGX12_clause_0_131 C hK hJ _ _ _ _ _ _ h hP hS (lv_sub hl [0, 2, 3] rfl)
              · rw [if_pos c122] at h
                cases h
                exact rt_v C hP hS dX12_clause_125
        · rw [if_pos c58] at h
          exact wGX12_clause_0_61 C hK hJ _ _ _ _ h hP hS (lv_sub hl [0] rfl)
    · rw [if_pos c33] at h
      cases h
      exact rt_v C hP hS dX12_clause_36
  · rw [if_neg c8] at h
    refine lv_aload_n C.1 C.2.1 dX12_clause_11 rfl (lv_at hl 0 rfl) ?_
    obtain ⟨⟨r44, u45⟩, hc46, h⟩ := bd_some h
    try dsimp only at h
    refine cg_i (As := []) (rest := []) C hK hP hS (metX12_fails_0 l D cy ad st hJ _  hc46) (cwV 0 C.2.2.2.2.2.1 gX12_clause_X12_fails rfl rfl rfl (by decide +kernel) ⟨(Nat.le_of_ble_eq_true rfl), (Nat.le_of_ble_eq_true rfl)⟩) 0 12 rfl rfl rfl hl.1 rfl (Nat.le_of_ble_eq_true rfl) dX12_clause_12 ⟨Nat.zero_le _, Nat.zero_le _⟩ (fun H locs hP hS => ?_)
    refine lv_pop C.1 C.2.1 dX12_clause_15 rfl ?_
    cases h
    exact rt_v C hP hS dX12_clause_16
theorem metX12_clause_0 (l : Launch) (D : va_G) (cy : Nat → ClassId) (ad st : Nat → Nat) (hJ : JM ad) (sz : Nat)  {u : SX} {r : Int32} {u' : SX} (h : fX12_clause_0  u = some (r, u')) : Met l yX12_clause wsX12_clause rmX12_clause_0 (va_Pc [.ref (ad 0)] (Px D [(cy 0, .int), (cy 1, .long), (cy 2, .boolean), (cy 3, .byte), (cy 4, .object "HissHorn$Text")] st (VM cy ad st) sz u)) (Qv D (VM cy ad st) (AM ad) sz r u') 0 0 (Ax (AM ad) sz) := by
  refine Met.ofW (cc := cX12_clause) (maxL := 5) (ret := none) (by decide) rfl ?_
  intro p e s m args below meth c s₁ B hml hv
  obtain ⟨rfl, hsz, hP, hK⟩ := hv
  subst hsz
  have C : Cx RX12 cX12_clause 5 none wsX12_clause p s m _ meth c := ⟨B.exec, B.bytes, hml, B.returns, findClass_of_methodNamed B.named, atoms_spec (ws := wsX12_clause) B.pre, B.notSynchronized⟩
  have hl := lv_entry ([.ref (ad 0)]) (n := 5) (Nat.le_of_ble_eq_true rfl)
  rw [lg_entry_eq]
  exact wX12_clause_0 C hK hJ h hP va_S.rf hl

theorem dX12_goThrough_73 : decode cX12_goThrough 73 = .ok (.aload_n 0, 1) := by decide +kernel
theorem dX12_goThrough_74 : decode cX12_goThrough 74 = .ok (.getfield 182, 3) := by decide +kernel
theorem dX12_goThrough_77 : decode cX12_goThrough 77 = .ok (.iconst (-1), 1) := by decide +kernel
theorem dX12_goThrough_78 : decode cX12_goThrough 78 = .ok (.if_icmp .ne 29, 3) := by decide +kernel
theorem dX12_goThrough_81 : decode cX12_goThrough 81 = .ok (.aload_n 0, 1) := by decide +kernel
set_option maxRecDepth 20000 in
theorem ggX12_goThrough_X12_look : GoodIn wsX12_goThrough wsX12_look := goodIn_r _ [18, 5, 3, 1, 2, 167, 168, 169, 170, 171, 172, 173, 174, 175, 176, 177, 178, 179, 180, 181, 182, 183, 184, 185, 186, 187, 188, 189, 190, 191, 192, 193, 194, 195, 196, 197, 198, 199, 200, 201, 202, 203, 204, 205, 206, 207, 208, 209, 210, 211, 212, 213, 214, 215, 216, 217, 218, 219, 220, 221, 222, 223, 224, 225, 226, 227, 228, 229, 230, 231, 232, 233, 234, 235] (by decide +kernel) (by decide +kernel)
set_option maxRecDepth 20000 in
theorem gX12_goThrough_X12_look : GoodIn wsX12_goThrough (wsV RX12 192 RX12 yX12_look wsX12_look) := goodIn_app (goodIn_of _ (by decide +kernel)) ggX12_goThrough_X12_look
theorem dX12_goThrough_82 : decode cX12_goThrough 82 = .ok (.invokevirtual 192, 3) := by decide +kernel
theorem dX12_goThrough_85 : decode cX12_goThrough 85 = .ok (.bipush 59, 2) := by decide +kernel
theorem dX12_goThrough_87 : decode cX12_goThrough 87 = .ok (.if_icmp .ne 20, 3) := by decide +kernel
theorem dX12_goThrough_90 : decode cX12_goThrough 90 = .ok (.aload_n 0, 1) := by decide +kernel
theorem dX12_goThrough_91 : decode cX12_goThrough 91 = .ok (.dup, 1) := by decide +kernel
theorem dX12_goThrough_92 : decode cX12_goThrough 92 = .ok (.getfield 173, 3) := by decide +kernel
theorem dX12_goThrough_95 : decode cX12_goThrough 95 = .ok (.iconst 1, 1) := by decide +kernel
theorem dX12_goThrough_96 : decode cX12_goThrough 96 = .ok (.iadd, 1) := by decide +kernel
theorem dX12_goThrough_97 : decode cX12_goThrough 97 = .ok (.putfield 173, 3) := by decide +kernel
theorem dX12_goThrough_100 : decode cX12_goThrough 100 = .ok (.aload_n 0, 1) := by decide +kernel
set_option maxRecDepth 20000 in
theorem ggX12_goThrough_X12_clause : GoodIn wsX12_goThrough wsX12_clause := goodIn_r _ [14, 5, 6, 8, 9, 15, 16, 17, 13, 18, 3, 1, 2, 19, 20, 21, 22, 23, 24, 25, 26, 27, 28, 29, 30, 31, 32, 33, 34, 35, 36, 37, 38, 39, 40, 41, 42, 43, 44, 45, 46, 47, 48, 49, 50, 51, 52, 53, 54, 55, 56, 57, 58, 4, 59, 7, 60, 61, 62, 63, 64, 65, 66, 67, 68, 69, 70, 71, 72, 73, 74, 75, 76, 77, 78, 79, 80, 81, 82, 83, 84, 85, 86, 87, 88, 89, 90, 91, 92, 93, 94, 95, 96, 97, 98, 99, 100, 101, 102, 103, 104, 105, 106, 107, 108, 109, 110, 111, 112, 113, 114, 115, 116, 117, 118, 119, 120, 121, 122, 123, 124, 125, 126, 127, 128, 129, 130, 131, 132, 133, 134, 135, 136, 137, 138, 139, 140, 141, 142, 143, 144, 145, 146, 147, 148, 149, 150, 151, 152, 153, 154, 155, 156, 157, 158, 159, 160, 161, 162, 163, 164, 165, 166, 167, 168, 169, 170, 171, 172, 173, 174, 175, 176, 177, 178, 179, 180, 181, 182, 183, 184, 185, 186, 187, 188, 189, 190, 191, 192, 193, 194, 195, 196, 197, 198, 199, 200, 201, 202, 203, 204, 205, 206, 207, 208, 209, 210, 211, 212, 213, 214, 215, 216, 217, 218, 219, 220, 221, 222, 223, 224, 225, 226, 227, 228, 229, 230, 231, 232, 233, 234, 235] (by decide +kernel) (by decide +kernel)
set_option maxRecDepth 20000 in
theorem gX12_goThrough_X12_clause : GoodIn wsX12_goThrough (wsV RX12 264 RX12 yX12_clause wsX12_clause) := goodIn_app (goodIn_of _ (by decide +kernel)) ggX12_goThrough_X12_clause
theorem dX12_goThrough_101 : decode cX12_goThrough 101 = .ok (.invokevirtual 264, 3) := by decide +kernel
theorem dX12_goThrough_104 : decode cX12_goThrough 104 = .ok (.goto (-31), 3) := by decide +kernel
theorem dX12_goThrough_107 : decode cX12_goThrough 107 = .ok (.aload_n 0, 1) := by decide +kernel
theorem dX12_goThrough_108 : decode cX12_goThrough 108 = .ok (.getfield 182, 3) := by decide +kernel
theorem dX12_goThrough_111 : decode cX12_goThrough 111 = .ok (.iconst (-1), 1) := by decide +kernel
theorem dX12_goThrough_112 : decode cX12_goThrough 112 = .ok (.if_icmp .ne 16, 3) := by decide +kernel
theorem dX12_goThrough_128 : decode cX12_goThrough 128 = .ok (.return_, 1) := by decide +kernel
theorem dX12_goThrough_115 : decode cX12_goThrough 115 = .ok (.aload_n 0, 1) := by decide +kernel
theorem dX12_goThrough_116 : decode cX12_goThrough 116 = .ok (.invokevirtual 192, 3) := by decide +kernel
theorem dX12_goThrough_119 : decode cX12_goThrough 119 = .ok (.iconst (-1), 1) := by decide +kernel
theorem dX12_goThrough_120 : decode cX12_goThrough 120 = .ok (.if_icmp .eq 8, 3) := by decide +kernel
theorem dX12_goThrough_123 : decode cX12_goThrough 123 = .ok (.aload_n 0, 1) := by decide +kernel
set_option maxRecDepth 20000 in
theorem ggX12_goThrough_X12_fails : GoodIn wsX12_goThrough wsX12_fails := goodIn_r _ [22, 6, 5, 167, 168, 169, 170, 171, 172, 173, 174, 175, 176, 177, 178, 179, 180, 181, 182, 183, 184, 185, 186, 187, 188, 189, 190, 191, 192, 193, 194, 195, 196, 197, 198, 199, 200, 201, 202, 203, 204, 205, 206, 207, 208, 209, 210, 211, 212, 213, 214, 215, 216, 217, 218, 219, 220, 221, 222, 223, 224, 225, 226, 227, 228, 229, 230, 231, 232, 233, 234, 235] (by decide +kernel) (by decide +kernel)
set_option maxRecDepth 20000 in
theorem gX12_goThrough_X12_fails : GoodIn wsX12_goThrough (wsV RX12 188 RX12 yX12_fails wsX12_fails) := goodIn_app (goodIn_of _ (by decide +kernel)) ggX12_goThrough_X12_fails
theorem dX12_goThrough_124 : decode cX12_goThrough 124 = .ok (.invokevirtual 188, 3) := by decide +kernel
theorem dX12_goThrough_127 : decode cX12_goThrough 127 = .ok (.pop, 1) := by decide +kernel
theorem dX12_goThrough_41 : decode cX12_goThrough 41 = .ok (.putfield 31, 3) := by decide +kernel
theorem dX12_goThrough_44 : decode cX12_goThrough 44 = .ok (.aload_n 0, 1) := by decide +kernel
theorem dX12_goThrough_45 : decode cX12_goThrough 45 = .ok (.iconst 0, 1) := by decide +kernel
theorem dX12_goThrough_46 : decode cX12_goThrough 46 = .ok (.putfield 173, 3) := by decide +kernel
theorem dX12_goThrough_49 : decode cX12_goThrough 49 = .ok (.aload_n 0, 1) := by decide +kernel
theorem dX12_goThrough_50 : decode cX12_goThrough 50 = .ok (.iconst (-1), 1) := by decide +kernel
theorem dX12_goThrough_51 : decode cX12_goThrough 51 = .ok (.putfield 182, 3) := by decide +kernel
theorem dX12_goThrough_54 : decode cX12_goThrough 54 = .ok (.aload_n 0, 1) := by decide +kernel
theorem dX12_goThrough_55 : decode cX12_goThrough 55 = .ok (.iconst 0, 1) := by decide +kernel
theorem dX12_goThrough_56 : decode cX12_goThrough 56 = .ok (.putfield 185, 3) := by decide +kernel
theorem dX12_goThrough_59 : decode cX12_goThrough 59 = .ok (.aload_n 0, 1) := by decide +kernel
theorem dX12_goThrough_60 : decode cX12_goThrough 60 = .ok (.iconst 0, 1) := by decide +kernel
theorem dX12_goThrough_61 : decode cX12_goThrough 61 = .ok (.putfield 253, 3) := by decide +kernel
theorem dX12_goThrough_64 : decode cX12_goThrough 64 = .ok (.aload_n 0, 1) := by decide +kernel
theorem dX12_goThrough_65 : decode cX12_goThrough 65 = .ok (.iconst 0, 1) := by decide +kernel
theorem dX12_goThrough_66 : decode cX12_goThrough 66 = .ok (.putfield 257, 3) := by decide +kernel
theorem dX12_goThrough_69 : decode cX12_goThrough 69 = .ok (.aload_n 0, 1) := by decide +kernel
theorem dX12_goThrough_70 : decode cX12_goThrough 70 = .ok (.invokevirtual 264, 3) := by decide +kernel
theorem dX12_goThrough_0 : decode cX12_goThrough 0 = .ok (.aload_n 0, 1) := by decide +kernel
theorem dX12_goThrough_1 : decode cX12_goThrough 1 = .ok (.aload_n 1, 1) := by decide +kernel
theorem dX12_goThrough_2 : decode cX12_goThrough 2 = .ok (.putfield 26, 3) := by decide +kernel
theorem dX12_goThrough_5 : decode cX12_goThrough 5 = .ok (.aload_n 0, 1) := by decide +kernel
theorem dX12_goThrough_6 : decode cX12_goThrough 6 = .ok (.iload_n 2, 1) := by decide +kernel
theorem dX12_goThrough_7 : decode cX12_goThrough 7 = .ok (.putfield 179, 3) := by decide +kernel
theorem dX12_goThrough_10 : decode cX12_goThrough 10 = .ok (.aload_n 0, 1) := by decide +kernel
theorem dX12_goThrough_11 : decode cX12_goThrough 11 = .ok (.iload_n 3, 1) := by decide +kernel
theorem dX12_goThrough_12 : decode cX12_goThrough 12 = .ok (.putfield 176, 3) := by decide +kernel
theorem dX12_goThrough_15 : decode cX12_goThrough 15 = .ok (.aload_n 0, 1) := by decide +kernel
theorem dX12_goThrough_16 : decode cX12_goThrough 16 = .ok (.iload 4, 2) := by decide +kernel
theorem dX12_goThrough_18 : decode cX12_goThrough 18 = .ok (.ifCond .ne 8, 3) := by decide +kernel
theorem dX12_goThrough_26 : decode cX12_goThrough 26 = .ok (.iload 4, 2) := by decide +kernel
theorem dX12_goThrough_28 : decode cX12_goThrough 28 = .ok (.iconst 1, 1) := by decide +kernel
theorem dX12_goThrough_29 : decode cX12_goThrough 29 = .ok (.if_icmp .ne 9, 3) := by decide +kernel
theorem dX12_goThrough_38 : decode cX12_goThrough 38 = .ok (.ldc_w 262, 3) := by decide +kernel
theorem dX12_goThrough_32 : decode cX12_goThrough 32 = .ok (.ldc_w 260, 3) := by decide +kernel
theorem dX12_goThrough_35 : decode cX12_goThrough 35 = .ok (.goto 6, 3) := by decide +kernel
theorem dX12_goThrough_21 : decode cX12_goThrough 21 = .ok (.ldc 29, 2) := by decide +kernel
theorem dX12_goThrough_23 : decode cX12_goThrough 23 = .ok (.goto 18, 3) := by decide +kernel
/-- HissHornModel.goThrough([BIII)V of cell 0 -/
def rmX12_goThrough_0_a1 : Room := { frames := 134, cells := 0, slots := 0, locals := 8330 }
theorem hX12_goThrough_0_a1_X12 : ∀ w ∈ u_ws RX12 TX12 69, w ∈ wsX12_goThrough := fun w h => (List.mem_cons_of_mem _ (List.mem_append_right _ h))
theorem mX12_goThrough_0_a1_1 : Cond.fieldLink RX12 26 "HissHornModel" "text" "[B" ∈ wsX12_goThrough := (List.mem_cons_of_mem _ (List.mem_append_left _ (List.mem_append_left _ (List.mem_of_getElem? (i := 0) rfl))))
theorem mX12_goThrough_0_a1_2 : Cond.fieldLink RX12 179 "HissHornModel" "begins" "I" ∈ wsX12_goThrough := (List.mem_cons_of_mem _ (List.mem_append_left _ (List.mem_append_left _ (List.mem_of_getElem? (i := 1) rfl))))
theorem mX12_goThrough_0_a1_3 : Cond.fieldLink RX12 176 "HissHornModel" "ends" "I" ∈ wsX12_goThrough := (List.mem_cons_of_mem _ (List.mem_append_left _ (List.mem_append_left _ (List.mem_of_getElem? (i := 2) rfl))))
theorem mX12_goThrough_0_a1_4 : Cond.fieldLink RX12 31 "HissHornModel" "allowed" "Ljava/lang/String;" ∈ wsX12_goThrough := (List.mem_cons_of_mem _ (List.mem_append_left _ (List.mem_append_left _ (List.mem_of_getElem? (i := 3) rfl))))
theorem mX12_goThrough_0_a1_5 : Cond.fieldLink RX12 173 "HissHornModel" "at" "I" ∈ wsX12_goThrough := (List.mem_cons_of_mem _ (List.mem_append_left _ (List.mem_append_left _ (List.mem_of_getElem? (i := 4) rfl))))
theorem mX12_goThrough_0_a1_6 : Cond.fieldLink RX12 182 "HissHornModel" "fault" "I" ∈ wsX12_goThrough := (List.mem_cons_of_mem _ (List.mem_append_left _ (List.mem_append_left _ (List.mem_of_getElem? (i := 5) rfl))))
theorem mX12_goThrough_0_a1_7 : Cond.fieldLink RX12 185 "HissHornModel" "deep" "I" ∈ wsX12_goThrough := (List.mem_cons_of_mem _ (List.mem_append_left _ (List.mem_append_left _ (List.mem_of_getElem? (i := 6) rfl))))
theorem mX12_goThrough_0_a1_8 : Cond.fieldLink RX12 253 "HissHornModel" "hasFound" "Z" ∈ wsX12_goThrough := (List.mem_cons_of_mem _ (List.mem_append_left _ (List.mem_append_left _ (List.mem_of_getElem? (i := 7) rfl))))
theorem mX12_goThrough_0_a1_9 : Cond.fieldLink RX12 257 "HissHornModel" "found" "I" ∈ wsX12_goThrough := (List.mem_cons_of_mem _ (List.mem_append_left _ (List.mem_append_left _ (List.mem_of_getElem? (i := 8) rfl))))
def LX12_goThrough_0_a1_73 (k107 : SX → Option (Int32 × SX)) : Nat → SX → Option (Int32 × SX)
  | 0, _ => none
  | n + 1, u => (if (u.1 7) = (-1) then ((fX12_look_0  u).bind fun q => match q with | (r23, u24) => (if r23 = 59 then (lt (sI u24 6 ((u24.1 6) + 1)) fun u26 => ((fX12_clause_0  u26).bind fun q => match q with | (r28, u29) => ((LX12_goThrough_0_a1_73 k107 n) u29))) else (k107 u24))) else (k107 u))
def GX12_goThrough_0_a1_107  (u : SX) : Option (Int32 × SX) := (if (u.1 7) = (-1) then ((fX12_look_0  u).bind fun q => match q with | (r31, u32) => (if r31 = (-1) then (some (0, u32)) else ((fX12_fails_0  u32).bind fun q => match q with | (r34, u35) => (some (0, u35))))) else (some (0, u)))
def GX12_goThrough_0_a1_41  (u : SX) : Option (Int32 × SX) := (lt (sI u 10 7) fun u7 => (lt (sI u7 6 0) fun u9 => (lt (sI u9 7 (-1)) fun u11 => (lt (sI u11 8 0) fun u13 => (gd (isB 0) (lt (sI u13 11 0) fun u16 => (lt (sI u16 9 0) fun u18 => ((fX12_clause_0  u18).bind fun q => match q with | (r20, u21) => (LX12_goThrough_0_a1_73 GX12_goThrough_0_a1_107 5000 u21)))))))))
def GX12_goThrough_0_a1_41a  (u : SX) : Option (Int32 × SX) := (lt (sI u 10 6) fun u37 => (lt (sI u37 6 0) fun u39 => (lt (sI u39 7 (-1)) fun u41 => (lt (sI u41 8 0) fun u43 => (gd (isB 0) (lt (sI u43 11 0) fun u46 => (lt (sI u46 9 0) fun u48 => ((fX12_clause_0  u48).bind fun q => match q with | (r50, u51) => (LX12_goThrough_0_a1_73 GX12_goThrough_0_a1_107 5000 u51)))))))))
def GX12_goThrough_0_a1_41b  (u : SX) : Option (Int32 × SX) := (lt (sI u 10 5) fun u53 => (lt (sI u53 6 0) fun u55 => (lt (sI u55 7 (-1)) fun u57 => (lt (sI u57 8 0) fun u59 => (gd (isB 0) (lt (sI u59 11 0) fun u62 => (lt (sI u62 9 0) fun u64 => ((fX12_clause_0  u64).bind fun q => match q with | (r66, u67) => (LX12_goThrough_0_a1_73 GX12_goThrough_0_a1_107 5000 u67)))))))))
def fX12_goThrough_0_a1 (x2 : Int32) (x3 : Int32) (x4 : Int32) (u : SX) : Option (Int32 × SX) := (lt (sI u 2 2) fun u1 => (lt (sI u1 4 x2) fun u3 => (lt (sI u3 5 x3) fun u5 => (if x4 = 0 then (GX12_goThrough_0_a1_41b u5) else (if x4 = 1 then (GX12_goThrough_0_a1_41a u5) else (GX12_goThrough_0_a1_41 u5))))))
set_option maxHeartbeats 4000000 in
set_option maxRecDepth 100000 in
theorem wLX12_goThrough_0_a1_73 {p : Program} {l : Launch} {e : Env} {s : State} {m : MethodId} {args : Array Value} {below : List Frame} {meth : Method} {c : Code} {D : va_G} {cy : Nat → ClassId} {ad st : Nat → Nat} (C : Cx RX12 cX12_goThrough 5 none wsX12_goThrough p s m args meth c) (hK : Kx D [(cy 0, .int), (cy 1, .long), (cy 2, .boolean), (cy 3, .byte), (cy 4, .object "HissHorn$Text")] st s) (hJ : JM ad) {r : Int32} {u' : SX} {k107 : SX → Option (Int32 × SX)} (hk107 : ∀  (u : SX) (H : Heap) (locs : List Loc) (ls : Array Slot), k107 u = some (r, u') → va_P D vwCl (VM cy ad st u) H → va_S (Ax (AM ad) s.heap.size) s.heap H locs → lv_has ls 5 [(0, .ref (ad 0))] → W p l e rmX12_goThrough_0_a1 s m args below meth c H locs 0 0 (MQ below (Qv D (VM cy ad st) (AM ad) s.heap.size r u') args s 0 0 (Ax (AM ad) s.heap.size)) (F0 m 107 ls [])) : ∀ (n : Nat) (u : SX) (H : Heap) (locs : List Loc) (ls : Array Slot), LX12_goThrough_0_a1_73 k107 n u = some (r, u') → va_P D vwCl (VM cy ad st u) H → va_S (Ax (AM ad) s.heap.size) s.heap H locs → lv_has ls 5 [(0, .ref (ad 0))] → W p l e rmX12_goThrough_0_a1 s m args below meth c H locs 0 0 (MQ below (Qv D (VM cy ad st) (AM ad) s.heap.size r u') args s 0 0 (Ax (AM ad) s.heap.size)) (F0 m 73 ls []) := by
  intro n
  induction n with
  | zero =>
    intro u H locs ls h
    exact absurd h (by intro q; cases q)
  | succ n ih =>
    intro u H locs ls h hP hS hl
    rw [LX12_goThrough_0_a1_73] at h
    refine lv_aload_n C.1 C.2.1 dX12_goThrough_73 rfl (lv_at hl 0 rfl) ?_
    refine gM_0_fault C hX12_goThrough_0_a1_X12 hK hP mX12_goThrough_0_a1_6 dX12_goThrough_74 ?_
    refine lv_iconst (v := (-1)) C.1 C.2.1 dX12_goThrough_77 (by decide) ?_
    refine lv_icmp_ne (tgt := 107) C.1 C.2.1 dX12_goThrough_78 (by decide) (fun c78 => ?_) (fun c78 => ?_)
    · rw [if_neg c78] at h
      exact hk107 _ _ _ _ h hP hS hl
    · rw [if_pos c78] at h
      refine lv_aload_n C.1 C.2.1 dX12_goThrough_81 rfl (lv_at hl 0 rfl) ?_
      obtain ⟨⟨r23, u24⟩, hc25, h⟩ := bd_some h
      try dsimp only at h
      refine cg_i (As := []) (rest := []) C hK hP hS (metX12_look_0 l D cy ad st hJ _  hc25) (cwV 0 C.2.2.2.2.2.1 gX12_goThrough_X12_look rfl rfl rfl (by decide +kernel) ⟨(Nat.le_of_ble_eq_true rfl), (Nat.le_of_ble_eq_true rfl)⟩) 0 12 rfl rfl rfl hl.1 rfl (Nat.le_of_ble_eq_true rfl) dX12_goThrough_82 ⟨Nat.zero_le _, Nat.zero_le _⟩ (fun H locs hP hS => ?_)
      refine lv_bipush (v := 59) C.1 C.2.1 dX12_goThrough_85 (by decide) ?_
      refine lv_icmp_ne (tgt := 107) C.1 C.2.1 dX12_goThrough_87 (by decide) (fun c87 => ?_) (fun c87 => ?_)
      · rw [if_neg c87] at h
        exact hk107 _ _ _ _ h hP hS hl
      · rw [if_pos c87] at h
        refine lv_aload_n C.1 C.2.1 dX12_goThrough_90 rfl (lv_at hl 0 rfl) ?_
        refine lv_dup C.1 C.2.1 dX12_goThrough_91 rfl ?_
        refine gM_0_at C hX12_goThrough_0_a1_X12 hK hP mX12_goThrough_0_a1_5 dX12_goThrough_92 ?_
        refine lv_iconst (v := 1) C.1 C.2.1 dX12_goThrough_95 (by decide) ?_
        refine lv_iadd C.1 C.2.1 dX12_goThrough_96 ?_
        refine pM_0_at C hX12_goThrough_0_a1_X12 hK hP hJ hS mX12_goThrough_0_a1_5 dX12_goThrough_97 (fun H locs hP hS => ?_)
        obtain ⟨u26, hu27, h⟩ := lt_some h
        rw [← hu27] at hP
        refine lv_aload_n C.1 C.2.1 dX12_goThrough_100 rfl (lv_at hl 0 rfl) ?_
        obtain ⟨⟨r28, u29⟩, hc30, h⟩ := bd_some h
        try dsimp only at h
        refine cg_v (As := []) (rest := []) C hK hP hS (metX12_clause_0 l D cy ad st hJ _  hc30) (cwV 0 C.2.2.2.2.2.1 gX12_goThrough_X12_clause rfl rfl rfl (by decide +kernel) ⟨(Nat.le_of_ble_eq_true rfl), (Nat.le_of_ble_eq_true rfl)⟩) 0 12 rfl rfl rfl hl.1 rfl (Nat.le_of_ble_eq_true rfl) dX12_goThrough_101 ⟨Nat.zero_le _, Nat.zero_le _⟩ (fun H locs hP hS => ?_)
        refine lv_goto (tgt := 73) C.1 C.2.1 dX12_goThrough_104 (by decide) ?_
        exact ih _ _ _ _ h hP hS hl
set_option maxHeartbeats 4000000 in
set_option maxRecDepth 100000 in
theorem wGX12_goThrough_0_a1_107 {p : Program} {l : Launch} {e : Env} {s : State} {m : MethodId} {args : Array Value} {below : List Frame} {meth : Method} {c : Code} {D : va_G} {cy : Nat → ClassId} {ad st : Nat → Nat} (C : Cx RX12 cX12_goThrough 5 none wsX12_goThrough p s m args meth c) (hK : Kx D [(cy 0, .int), (cy 1, .long), (cy 2, .boolean), (cy 3, .byte), (cy 4, .object "HissHorn$Text")] st s) (hJ : JM ad) {r : Int32} {u' : SX}   (u : SX) (H : Heap) (locs : List Loc) (ls : Array Slot) (h : GX12_goThrough_0_a1_107  u = some (r, u')) (hP : va_P D vwCl (VM cy ad st u) H) (hS : va_S (Ax (AM ad) s.heap.size) s.heap H locs) (hl : lv_has ls 5 [(0, .ref (ad 0))]) : W p l e rmX12_goThrough_0_a1 s m args below meth c H locs 0 0 (MQ below (Qv D (VM cy ad st) (AM ad) s.heap.size r u') args s 0 0 (Ax (AM ad) s.heap.size)) (F0 m 107 ls []) := by
  unfold GX12_goThrough_0_a1_107 at h
  refine lv_aload_n C.1 C.2.1 dX12_goThrough_107 rfl (lv_at hl 0 rfl) ?_
  refine gM_0_fault C hX12_goThrough_0_a1_X12 hK hP mX12_goThrough_0_a1_6 dX12_goThrough_108 ?_
  refine lv_iconst (v := (-1)) C.1 C.2.1 dX12_goThrough_111 (by decide) ?_
  refine lv_icmp_ne (tgt := 128) C.1 C.2.1 dX12_goThrough_112 (by decide) (fun c112 => ?_) (fun c112 => ?_)
  · rw [if_neg c112] at h
    cases h
    exact rt_v C hP hS dX12_goThrough_128
  · rw [if_pos c112] at h
    refine lv_aload_n C.1 C.2.1 dX12_goThrough_115 rfl (lv_at hl 0 rfl) ?_
    obtain ⟨⟨r31, u32⟩, hc33, h⟩ := bd_some h
    try dsimp only at h
    refine cg_i (As := []) (rest := []) C hK hP hS (metX12_look_0 l D cy ad st hJ _  hc33) (cwV 0 C.2.2.2.2.2.1 gX12_goThrough_X12_look rfl rfl rfl (by decide +kernel) ⟨(Nat.le_of_ble_eq_true rfl), (Nat.le_of_ble_eq_true rfl)⟩) 0 12 rfl rfl rfl hl.1 rfl (Nat.le_of_ble_eq_true rfl) dX12_goThrough_116 ⟨Nat.zero_le _, Nat.zero_le _⟩ (fun H locs hP hS => ?_)
    refine lv_iconst (v := (-1)) C.1 C.2.1 dX12_goThrough_119 (by decide) ?_
    refine lv_icmp_eq (tgt := 128) C.1 C.2.1 dX12_goThrough_120 (by decide) (fun c120 => ?_) (fun c120 => ?_)
    · rw [if_pos c120] at h
      cases h
      exact rt_v C hP hS dX12_goThrough_128
    · rw [if_neg c120] at h
      refine lv_aload_n C.1 C.2.1 dX12_goThrough_123 rfl (lv_at hl 0 rfl) ?_
      obtain ⟨⟨r34, u35⟩, hc36, h⟩ := bd_some h
      try dsimp only at h
      refine cg_i (As := []) (rest := []) C hK hP hS (metX12_fails_0 l D cy ad st hJ _  hc36) (cwV 0 C.2.2.2.2.2.1 gX12_goThrough_X12_fails rfl rfl rfl (by decide +kernel) ⟨(Nat.le_of_ble_eq_true rfl), (Nat.le_of_ble_eq_true rfl)⟩) 0 12 rfl rfl rfl hl.1 rfl (Nat.le_of_ble_eq_true rfl) dX12_goThrough_124 ⟨Nat.zero_le _, Nat.zero_le _⟩ (fun H locs hP hS => ?_)
      refine lv_pop C.1 C.2.1 dX12_goThrough_127 rfl ?_
      cases h
      exact rt_v C hP hS dX12_goThrough_128
set_option maxHeartbeats 4000000 in
set_option maxRecDepth 100000 in
theorem wGX12_goThrough_0_a1_41 {p : Program} {l : Launch} {e : Env} {s : State} {m : MethodId} {args : Array Value} {below : List Frame} {meth : Method} {c : Code} {D : va_G} {cy : Nat → ClassId} {ad st : Nat → Nat} (C : Cx RX12 cX12_goThrough 5 none wsX12_goThrough p s m args meth c) (hK : Kx D [(cy 0, .int), (cy 1, .long), (cy 2, .boolean), (cy 3, .byte), (cy 4, .object "HissHorn$Text")] st s) (hJ : JM ad) {r : Int32} {u' : SX}   (u : SX) (H : Heap) (locs : List Loc) (ls : Array Slot) (h : GX12_goThrough_0_a1_41  u = some (r, u')) (hP : va_P D vwCl (VM cy ad st u) H) (hS : va_S (Ax (AM ad) s.heap.size) s.heap H locs) (hl : lv_has ls 5 [(0, .ref (ad 0))]) : W p l e rmX12_goThrough_0_a1 s m args below meth c H locs 0 0 (MQ below (Qv D (VM cy ad st) (AM ad) s.heap.size r u') args s 0 0 (Ax (AM ad) s.heap.size)) (F0 m 41 ls [.ref (st 6), .ref (ad 0)]) := by
  unfold GX12_goThrough_0_a1_41 at h
  refine pM_0_allowed_6 C hX12_goThrough_0_a1_X12 hK hP hJ hS mX12_goThrough_0_a1_4 dX12_goThrough_41 (fun H locs hP hS => ?_)
  obtain ⟨u7, hu8, h⟩ := lt_some h
  rw [← hu8] at hP
  refine lv_aload_n C.1 C.2.1 dX12_goThrough_44 rfl (lv_at hl 0 rfl) ?_
  refine lv_iconst (v := 0) C.1 C.2.1 dX12_goThrough_45 (by decide) ?_
  refine pM_0_at C hX12_goThrough_0_a1_X12 hK hP hJ hS mX12_goThrough_0_a1_5 dX12_goThrough_46 (fun H locs hP hS => ?_)
  obtain ⟨u9, hu10, h⟩ := lt_some h
  rw [← hu10] at hP
  refine lv_aload_n C.1 C.2.1 dX12_goThrough_49 rfl (lv_at hl 0 rfl) ?_
  refine lv_iconst (v := (-1)) C.1 C.2.1 dX12_goThrough_50 (by decide) ?_
  refine pM_0_fault C hX12_goThrough_0_a1_X12 hK hP hJ hS mX12_goThrough_0_a1_6 dX12_goThrough_51 (fun H locs hP hS => ?_)
  obtain ⟨u11, hu12, h⟩ := lt_some h
  rw [← hu12] at hP
  refine lv_aload_n C.1 C.2.1 dX12_goThrough_54 rfl (lv_at hl 0 rfl) ?_
  refine lv_iconst (v := 0) C.1 C.2.1 dX12_goThrough_55 (by decide) ?_
  refine pM_0_deep C hX12_goThrough_0_a1_X12 hK hP hJ hS mX12_goThrough_0_a1_7 dX12_goThrough_56 (fun H locs hP hS => ?_)
  obtain ⟨u13, hu14, h⟩ := lt_some h
  rw [← hu14] at hP
  refine lv_aload_n C.1 C.2.1 dX12_goThrough_59 rfl (lv_at hl 0 rfl) ?_
  refine lv_iconst (v := 0) C.1 C.2.1 dX12_goThrough_60 (by decide) ?_
  obtain ⟨hg15, h⟩ := gd_some h
  refine pM_0_hasFound hg15 C hX12_goThrough_0_a1_X12 hK hP hJ hS mX12_goThrough_0_a1_8 dX12_goThrough_61 (fun H locs hP hS => ?_)
  obtain ⟨u16, hu17, h⟩ := lt_some h
  rw [← hu17] at hP
  refine lv_aload_n C.1 C.2.1 dX12_goThrough_64 rfl (lv_at hl 0 rfl) ?_
  refine lv_iconst (v := 0) C.1 C.2.1 dX12_goThrough_65 (by decide) ?_
  refine pM_0_found C hX12_goThrough_0_a1_X12 hK hP hJ hS mX12_goThrough_0_a1_9 dX12_goThrough_66 (fun H locs hP hS => ?_)
  obtain ⟨u18, hu19, h⟩ := lt_some h
  rw [← hu19] at hP
  refine lv_aload_n C.1 C.2.1 dX12_goThrough_69 rfl (lv_at hl 0 rfl) ?_
  obtain ⟨⟨r20, u21⟩, hc22, h⟩ := bd_some h
  try dsimp only at h
  refine cg_v (As := []) (rest := []) C hK hP hS (metX12_clause_0 l D cy ad st hJ _  hc22) (cwV 0 C.2.2.2.2.2.1 gX12_goThrough_X12_clause rfl rfl rfl (by decide +kernel) ⟨(Nat.le_of_ble_eq_true rfl), (Nat.le_of_ble_eq_true rfl)⟩) 0 12 rfl rfl rfl hl.1 rfl (Nat.le_of_ble_eq_true rfl) dX12_goThrough_70 ⟨Nat.zero_le _, Nat.zero_le _⟩ (fun H locs hP hS => ?_)
  exact wLX12_goThrough_0_a1_73 C hK hJ (wGX12_goThrough_0_a1_107 C hK hJ ) 5000 _ _ _ _ h hP hS hl
set_option maxHeartbeats 4000000 in
set_option maxRecDepth 100000 in
theorem wGX12_goThrough_0_a1_41a {p : Program} {l : Launch} {e : Env} {s : State} {m : MethodId} {args : Array Value} {below : List Frame} {meth : Method} {c : Code} {D : va_G} {cy : Nat → ClassId} {ad st : Nat → Nat} (C : Cx RX12 cX12_goThrough 5 none wsX12_goThrough p s m args meth c) (hK : Kx D [(cy 0, .int), (cy 1, .long), (cy 2, .boolean), (cy 3, .byte), (cy 4, .object "HissHorn$Text")] st s) (hJ : JM ad) {r : Int32} {u' : SX}   (u : SX) (H : Heap) (locs : List Loc) (ls : Array Slot) (h : GX12_goThrough_0_a1_41a  u = some (r, u')) (hP : va_P D vwCl (VM cy ad st u) H) (hS : va_S (Ax (AM ad) s.heap.size) s.heap H locs) (hl : lv_has ls 5 [(0, .ref (ad 0))]) : W p l e rmX12_goThrough_0_a1 s m args below meth c H locs 0 0 (MQ below (Qv D (VM cy ad st) (AM ad) s.heap.size r u') args s 0 0 (Ax (AM ad) s.heap.size)) (F0 m 41 ls [.ref (st 5), .ref (ad 0)]) := by
  unfold GX12_goThrough_0_a1_41a at h
  refine pM_0_allowed_5 C hX12_goThrough_0_a1_X12 hK hP hJ hS mX12_goThrough_0_a1_4 dX12_goThrough_41 (fun H locs hP hS => ?_)
  obtain ⟨u37, hu38, h⟩ := lt_some h
  rw [← hu38] at hP
  refine lv_aload_n C.1 C.2.1 dX12_goThrough_44 rfl (lv_at hl 0 rfl) ?_
  refine lv_iconst (v := 0) C.1 C.2.1 dX12_goThrough_45 (by decide) ?_
  refine pM_0_at C hX12_goThrough_0_a1_X12 hK hP hJ hS mX12_goThrough_0_a1_5 dX12_goThrough_46 (fun H locs hP hS => ?_)
  obtain ⟨u39, hu40, h⟩ := lt_some h
  rw [← hu40] at hP
  refine lv_aload_n C.1 C.2.1 dX12_goThrough_49 rfl (lv_at hl 0 rfl) ?_
  refine lv_iconst (v := (-1)) C.1 C.2.1 dX12_goThrough_50 (by decide) ?_
  refine pM_0_fault C hX12_goThrough_0_a1_X12 hK hP hJ hS mX12_goThrough_0_a1_6 dX12_goThrough_51 (fun H locs hP hS => ?_)
  obtain ⟨u41, hu42, h⟩ := lt_some h
  rw [← hu42] at hP
  refine lv_aload_n C.1 C.2.1 dX12_goThrough_54 rfl (lv_at hl 0 rfl) ?_
  refine lv_iconst (v := 0) C.1 C.2.1 dX12_goThrough_55 (by decide) ?_
  refine pM_0_deep C hX12_goThrough_0_a1_X12 hK hP hJ hS mX12_goThrough_0_a1_7 dX12_goThrough_56 (fun H locs hP hS => ?_)
  obtain ⟨u43, hu44, h⟩ := lt_some h
  rw [← hu44] at hP
  refine lv_aload_n C.1 C.2.1 dX12_goThrough_59 rfl (lv_at hl 0 rfl) ?_
  refine lv_iconst (v := 0) C.1 C.2.1 dX12_goThrough_60 (by decide) ?_
  obtain ⟨hg45, h⟩ := gd_some h
  refine pM_0_hasFound hg45 C hX12_goThrough_0_a1_X12 hK hP hJ hS mX12_goThrough_0_a1_8 dX12_goThrough_61 (fun H locs hP hS => ?_)
  obtain ⟨u46, hu47, h⟩ := lt_some h
  rw [← hu47] at hP
  refine lv_aload_n C.1 C.2.1 dX12_goThrough_64 rfl (lv_at hl 0 rfl) ?_
  refine lv_iconst (v := 0) C.1 C.2.1 dX12_goThrough_65 (by decide) ?_
  refine pM_0_found C hX12_goThrough_0_a1_X12 hK hP hJ hS mX12_goThrough_0_a1_9 dX12_goThrough_66 (fun H locs hP hS => ?_)
  obtain ⟨u48, hu49, h⟩ := lt_some h
  rw [← hu49] at hP
  refine lv_aload_n C.1 C.2.1 dX12_goThrough_69 rfl (lv_at hl 0 rfl) ?_
  obtain ⟨⟨r50, u51⟩, hc52, h⟩ := bd_some h
  try dsimp only at h
  refine cg_v (As := []) (rest := []) C hK hP hS (metX12_clause_0 l D cy ad st hJ _  hc52) (cwV 0 C.2.2.2.2.2.1 gX12_goThrough_X12_clause rfl rfl rfl (by decide +kernel) ⟨(Nat.le_of_ble_eq_true rfl), (Nat.le_of_ble_eq_true rfl)⟩) 0 12 rfl rfl rfl hl.1 rfl (Nat.le_of_ble_eq_true rfl) dX12_goThrough_70 ⟨Nat.zero_le _, Nat.zero_le _⟩ (fun H locs hP hS => ?_)
  exact wLX12_goThrough_0_a1_73 C hK hJ (wGX12_goThrough_0_a1_107 C hK hJ ) 5000 _ _ _ _ h hP hS hl
set_option maxHeartbeats 4000000 in
set_option maxRecDepth 100000 in
theorem wGX12_goThrough_0_a1_41b {p : Program} {l : Launch} {e : Env} {s : State} {m : MethodId} {args : Array Value} {below : List Frame} {meth : Method} {c : Code} {D : va_G} {cy : Nat → ClassId} {ad st : Nat → Nat} (C : Cx RX12 cX12_goThrough 5 none wsX12_goThrough p s m args meth c) (hK : Kx D [(cy 0, .int), (cy 1, .long), (cy 2, .boolean), (cy 3, .byte), (cy 4, .object "HissHorn$Text")] st s) (hJ : JM ad) {r : Int32} {u' : SX}   (u : SX) (H : Heap) (locs : List Loc) (ls : Array Slot) (h : GX12_goThrough_0_a1_41b  u = some (r, u')) (hP : va_P D vwCl (VM cy ad st u) H) (hS : va_S (Ax (AM ad) s.heap.size) s.heap H locs) (hl : lv_has ls 5 [(0, .ref (ad 0))]) : W p l e rmX12_goThrough_0_a1 s m args below meth c H locs 0 0 (MQ below (Qv D (VM cy ad st) (AM ad) s.heap.size r u') args s 0 0 (Ax (AM ad) s.heap.size)) (F0 m 41 ls [.ref (st 4), .ref (ad 0)]) := by
  unfold GX12_goThrough_0_a1_41b at h
  refine pM_0_allowed_4 C hX12_goThrough_0_a1_X12 hK hP hJ hS mX12_goThrough_0_a1_4 dX12_goThrough_41 (fun H locs hP hS => ?_)
  obtain ⟨u53, hu54, h⟩ := lt_some h
  rw [← hu54] at hP
  refine lv_aload_n C.1 C.2.1 dX12_goThrough_44 rfl (lv_at hl 0 rfl) ?_
  refine lv_iconst (v := 0) C.1 C.2.1 dX12_goThrough_45 (by decide) ?_
  refine pM_0_at C hX12_goThrough_0_a1_X12 hK hP hJ hS mX12_goThrough_0_a1_5 dX12_goThrough_46 (fun H locs hP hS => ?_)
  obtain ⟨u55, hu56, h⟩ := lt_some h
  rw [← hu56] at hP
  refine lv_aload_n C.1 C.2.1 dX12_goThrough_49 rfl (lv_at hl 0 rfl) ?_
  refine lv_iconst (v := (-1)) C.1 C.2.1 dX12_goThrough_50 (by decide) ?_
  refine pM_0_fault C hX12_goThrough_0_a1_X12 hK hP hJ hS mX12_goThrough_0_a1_6 dX12_goThrough_51 (fun H locs hP hS => ?_)
  obtain ⟨u57, hu58, h⟩ := lt_some h
  rw [← hu58] at hP
  refine lv_aload_n C.1 C.2.1 dX12_goThrough_54 rfl (lv_at hl 0 rfl) ?_
  refine lv_iconst (v := 0) C.1 C.2.1 dX12_goThrough_55 (by decide) ?_
  refine pM_0_deep C hX12_goThrough_0_a1_X12 hK hP hJ hS mX12_goThrough_0_a1_7 dX12_goThrough_56 (fun H locs hP hS => ?_)
  obtain ⟨u59, hu60, h⟩ := lt_some h
  rw [← hu60] at hP
  refine lv_aload_n C.1 C.2.1 dX12_goThrough_59 rfl (lv_at hl 0 rfl) ?_
  refine lv_iconst (v := 0) C.1 C.2.1 dX12_goThrough_60 (by decide) ?_
  obtain ⟨hg61, h⟩ := gd_some h
  refine pM_0_hasFound hg61 C hX12_goThrough_0_a1_X12 hK hP hJ hS mX12_goThrough_0_a1_8 dX12_goThrough_61 (fun H locs hP hS => ?_)
  obtain ⟨u62, hu63, h⟩ := lt_some h
  rw [← hu63] at hP
  refine lv_aload_n C.1 C.2.1 dX12_goThrough_64 rfl (lv_at hl 0 rfl) ?_
  refine lv_iconst (v := 0) C.1 C.2.1 dX12_goThrough_65 (by decide) ?_
  refine pM_0_found C hX12_goThrough_0_a1_X12 hK hP hJ hS mX12_goThrough_0_a1_9 dX12_goThrough_66 (fun H locs hP hS => ?_)
  obtain ⟨u64, hu65, h⟩ := lt_some h
  rw [← hu65] at hP
  refine lv_aload_n C.1 C.2.1 dX12_goThrough_69 rfl (lv_at hl 0 rfl) ?_
  obtain ⟨⟨r66, u67⟩, hc68, h⟩ := bd_some h
  try dsimp only at h
  refine cg_v (As := []) (rest := []) C hK hP hS (metX12_clause_0 l D cy ad st hJ _  hc68) (cwV 0 C.2.2.2.2.2.1 gX12_goThrough_X12_clause rfl rfl rfl (by decide +kernel) ⟨(Nat.le_of_ble_eq_true rfl), (Nat.le_of_ble_eq_true rfl)⟩) 0 12 rfl rfl rfl hl.1 rfl (Nat.le_of_ble_eq_true rfl) dX12_goThrough_70 ⟨Nat.zero_le _, Nat.zero_le _⟩ (fun H locs hP hS => ?_)
  exact wLX12_goThrough_0_a1_73 C hK hJ (wGX12_goThrough_0_a1_107 C hK hJ ) 5000 _ _ _ _ h hP hS hl
set_option maxHeartbeats 4000000 in
set_option maxRecDepth 100000 in
theorem wX12_goThrough_0_a1 {p : Program} {l : Launch} {e : Env} {s : State} {m : MethodId} {args : Array Value} {below : List Frame} {meth : Method} {c : Code} {D : va_G} {cy : Nat → ClassId} {ad st : Nat → Nat} (C : Cx RX12 cX12_goThrough 5 none wsX12_goThrough p s m args meth c) (hK : Kx D [(cy 0, .int), (cy 1, .long), (cy 2, .boolean), (cy 3, .byte), (cy 4, .object "HissHorn$Text")] st s) (hJ : JM ad) (x2 : Int32) (x3 : Int32) (x4 : Int32) {u : SX} {r : Int32} {u' : SX} {H : Heap} {locs : List Loc} {ls : Array Slot} (h : fX12_goThrough_0_a1 x2 x3 x4 u = some (r, u')) (hP : va_P D vwCl (VM cy ad st u) H) (hS : va_S (Ax (AM ad) s.heap.size) s.heap H locs) (hl : lv_has ls 5 [(0, .ref (ad 0)), (1, .ref (ad 1)), (2, .int x2), (3, .int x3), (4, .int x4)]) : W p l e rmX12_goThrough_0_a1 s m args below meth c H locs 0 0 (MQ below (Qv D (VM cy ad st) (AM ad) s.heap.size r u') args s 0 0 (Ax (AM ad) s.heap.size)) (F0 m 0 ls []) := by
  unfold fX12_goThrough_0_a1 at h
  refine lv_aload_n C.1 C.2.1 dX12_goThrough_0 rfl (lv_at hl 0 rfl) ?_
  refine lv_aload_n C.1 C.2.1 dX12_goThrough_1 rfl (lv_at hl 1 rfl) ?_
  refine pM_0_text_1 C hX12_goThrough_0_a1_X12 hK hP hJ hS mX12_goThrough_0_a1_1 dX12_goThrough_2 (fun H locs hP hS => ?_)
  obtain ⟨u1, hu2, h⟩ := lt_some h
  rw [← hu2] at hP
  refine lv_aload_n C.1 C.2.1 dX12_goThrough_5 rfl (lv_at hl 0 rfl) ?_
  refine lv_iload_n C.1 C.2.1 dX12_goThrough_6 rfl (lv_at hl 2 rfl) ?_
  refine pM_0_begins C hX12_goThrough_0_a1_X12 hK hP hJ hS mX12_goThrough_0_a1_2 dX12_goThrough_7 (fun H locs hP hS => ?_)
  obtain ⟨u3, hu4, h⟩ := lt_some h
  rw [← hu4] at hP
  refine lv_aload_n C.1 C.2.1 dX12_goThrough_10 rfl (lv_at hl 0 rfl) ?_
  refine lv_iload_n C.1 C.2.1 dX12_goThrough_11 rfl (lv_at hl 3 rfl) ?_
  refine pM_0_ends C hX12_goThrough_0_a1_X12 hK hP hJ hS mX12_goThrough_0_a1_3 dX12_goThrough_12 (fun H locs hP hS => ?_)
  obtain ⟨u5, hu6, h⟩ := lt_some h
  rw [← hu6] at hP
  refine lv_aload_n C.1 C.2.1 dX12_goThrough_15 rfl (lv_at hl 0 rfl) ?_
  refine lv_iload C.1 C.2.1 dX12_goThrough_16 (lv_at hl 4 rfl) ?_
  refine lv_if_ne (tgt := 26) C.1 C.2.1 dX12_goThrough_18 (by decide) (fun c18 => ?_) (fun c18 => ?_)
  · rw [if_neg c18] at h
    refine lv_iload C.1 C.2.1 dX12_goThrough_26 (lv_at hl 4 rfl) ?_
    refine lv_iconst (v := 1) C.1 C.2.1 dX12_goThrough_28 (by decide) ?_
    refine lv_icmp_ne (tgt := 38) C.1 C.2.1 dX12_goThrough_29 (by decide) (fun c29 => ?_) (fun c29 => ?_)
    · rw [if_neg c29] at h
      refine xx_ldcwS C.1 C.2.1 C.2.2.2.2.1 (hK.2.2 (RX12, 262, "ngbkt", 6) (by decide +kernel)) dX12_goThrough_38 ?_
      exact wGX12_goThrough_0_a1_41 C hK hJ _ _ _ _ h hP hS (lv_sub hl [0] rfl)
    · rw [if_pos c29] at h
      refine xx_ldcwS C.1 C.2.1 C.2.2.2.2.1 (hK.2.2 (RX12, 260, "la", 5) (by decide +kernel)) dX12_goThrough_32 ?_
      refine lv_goto (tgt := 41) C.1 C.2.1 dX12_goThrough_35 (by decide) ?_
      exact wGX12_goThrough_0_a1_41a C hK hJ _ _ _ _ h hP hS (lv_sub hl [0] rfl)
  · rw [if_pos c18] at h
    refine va_ldcS C.1 C.2.1 C.2.2.2.2.1 (hK.2.2 (RX12, 29, "dahewl", 4) (by decide +kernel)) dX12_goThrough_21 ?_
    refine lv_goto (tgt := 41) C.1 C.2.1 dX12_goThrough_23 (by decide) ?_
    exact wGX12_goThrough_0_a1_41b C hK hJ _ _ _ _ h hP hS (lv_sub hl [0] rfl)
theorem metX12_goThrough_0_a1 (l : Launch) (D : va_G) (cy : Nat → ClassId) (ad st : Nat → Nat) (hJ : JM ad) (sz : Nat) (x2 : Int32) (x3 : Int32) (x4 : Int32) {u : SX} {r : Int32} {u' : SX} (h : fX12_goThrough_0_a1 x2 x3 x4 u = some (r, u')) : Met l yX12_goThrough wsX12_goThrough rmX12_goThrough_0_a1 (va_Pc [.ref (ad 0), .ref (ad 1), .int x2, .int x3, .int x4] (Px D [(cy 0, .int), (cy 1, .long), (cy 2, .boolean), (cy 3, .byte), (cy 4, .object "HissHorn$Text")] st (VM cy ad st) sz u)) (Qv D (VM cy ad st) (AM ad) sz r u') 0 0 (Ax (AM ad) sz) := by
  refine Met.ofW (cc := cX12_goThrough) (maxL := 5) (ret := none) (by decide) rfl ?_
  intro p e s m args below meth c s₁ B hml hv
  obtain ⟨rfl, hsz, hP, hK⟩ := hv
  subst hsz
  have C : Cx RX12 cX12_goThrough 5 none wsX12_goThrough p s m _ meth c := ⟨B.exec, B.bytes, hml, B.returns, findClass_of_methodNamed B.named, atoms_spec (ws := wsX12_goThrough) B.pre, B.notSynchronized⟩
  have hl := lv_entry ([.ref (ad 0), .ref (ad 1), .int x2, .int x3, .int x4]) (n := 5) (Nat.le_of_ble_eq_true rfl)
  rw [lg_entry_eq]
  exact wX12_goThrough_0_a1 C hK hJ x2 x3 x4 h hP va_S.rf hl

theorem dX12_fault_0 : decode cX12_fault 0 = .ok (.aload_n 0, 1) := by decide +kernel
theorem dX12_fault_1 : decode cX12_fault 1 = .ok (.iconst 0, 1) := by decide +kernel
theorem dX12_fault_2 : decode cX12_fault 2 = .ok (.putfield 151, 3) := by decide +kernel
theorem dX12_fault_5 : decode cX12_fault 5 = .ok (.iload_n 1, 1) := by decide +kernel
theorem dX12_fault_6 : decode cX12_fault 6 = .ok (.iconst 0, 1) := by decide +kernel
theorem dX12_fault_7 : decode cX12_fault 7 = .ok (.iconst 2, 1) := by decide +kernel
set_option maxRecDepth 20000 in
theorem ggX12_fault_X12_isIn : GoodIn wsX12_fault wsX12_isIn := goodIn_r _ [8] (by decide +kernel) (by decide +kernel)
set_option maxRecDepth 20000 in
theorem gX12_fault_X12_isIn : GoodIn wsX12_fault (va_wsS RX12 155 yX12_isIn wsX12_isIn) := goodIn_app (goodIn_of _ (by decide +kernel)) ggX12_fault_X12_isIn
theorem dX12_fault_8 : decode cX12_fault 8 = .ok (.invokestatic 155, 3) := by decide +kernel
theorem dX12_fault_11 : decode cX12_fault 11 = .ok (.ifCond .ne 6, 3) := by decide +kernel
theorem dX12_fault_17 : decode cX12_fault 17 = .ok (.aload_n 0, 1) := by decide +kernel
theorem dX12_fault_18 : decode cX12_fault 18 = .ok (.aload_n 0, 1) := by decide +kernel
theorem dX12_fault_19 : decode cX12_fault 19 = .ok (.getfield 9, 3) := by decide +kernel
theorem dX12_fault_22 : decode cX12_fault 22 = .ok (.iconst 0, 1) := by decide +kernel
theorem dX12_fault_23 : decode cX12_fault 23 = .ok (.aload_n 0, 1) := by decide +kernel
theorem dX12_fault_24 : decode cX12_fault 24 = .ok (.getfield 162, 3) := by decide +kernel
theorem dX12_fault_27 : decode cX12_fault 27 = .ok (.iload_n 1, 1) := by decide +kernel
set_option maxRecDepth 20000 in
theorem ggX12_fault_X12_goThrough : GoodIn wsX12_fault wsX12_goThrough := goodIn_r _ [12, 13, 14, 15, 16, 17, 4, 18, 19, 20, 21, 22, 23, 7, 24, 25, 26, 27, 28, 29, 30, 31, 32, 33, 34, 35, 36, 37, 38, 39, 40, 41, 42, 43, 44, 45, 46, 47, 48, 49, 50, 51, 52, 53, 54, 55, 56, 57, 58, 59, 60, 61, 62, 63, 64, 65, 66, 67, 68, 69, 70, 71, 72, 73, 74, 75, 76, 77, 78, 79, 80, 81, 82, 83, 84, 85, 86, 87, 88, 89, 90, 91, 92, 93, 94, 95, 96, 97, 98, 99, 100, 101, 102, 103, 104, 105, 106, 107, 108, 109, 110, 111, 112, 113, 114, 115, 116, 117, 118, 119, 120, 121, 122, 123, 124, 125, 126, 127, 128, 129, 130, 131, 132, 133, 134, 135, 136, 137, 138, 139, 140, 141, 142, 143, 144, 145, 146, 147, 148, 149, 150, 151, 152, 153, 154, 155, 156, 157, 158, 159, 160, 161, 162, 163, 164, 165, 166, 167, 168, 169, 170, 171, 172, 173, 174, 175, 176, 177, 178, 179, 180, 181, 182, 183, 184, 185, 186, 187, 188, 189, 190, 191, 192, 193, 194, 195, 196, 197, 198, 199, 200, 201, 202, 203, 204, 205, 206, 207, 208, 209, 210, 211, 212, 213, 214, 215, 216, 217, 218, 219, 220, 221, 222, 223, 224, 225, 226, 227, 228, 229, 230, 231, 232, 233, 234, 235, 236, 237, 238, 239, 240, 241, 242, 243, 244, 245] (by decide +kernel) (by decide +kernel)
set_option maxRecDepth 20000 in
theorem gX12_fault_X12_goThrough : GoodIn wsX12_fault (wsV RX12 267 RX12 yX12_goThrough wsX12_goThrough) := goodIn_app (goodIn_of _ (by decide +kernel)) ggX12_fault_X12_goThrough
theorem dX12_fault_28 : decode cX12_fault 28 = .ok (.invokevirtual 267, 3) := by decide +kernel
theorem dX12_fault_31 : decode cX12_fault 31 = .ok (.aload_n 0, 1) := by decide +kernel
theorem dX12_fault_32 : decode cX12_fault 32 = .ok (.getfield 182, 3) := by decide +kernel
theorem dX12_fault_35 : decode cX12_fault 35 = .ok (.ireturn, 1) := by decide +kernel
theorem dX12_fault_14 : decode cX12_fault 14 = .ok (.bipush (-2), 2) := by decide +kernel
theorem dX12_fault_16 : decode cX12_fault 16 = .ok (.ireturn, 1) := by decide +kernel
/-- HissHornModel.fault(I)I of cell 0 -/
def rmX12_fault_0 : Room := { frames := 135, cells := 0, slots := 0, locals := 8354 }
theorem hX12_fault_0_X12 : ∀ w ∈ u_ws RX12 TX12 69, w ∈ wsX12_fault := fun w h => (List.mem_cons_of_mem _ (List.mem_append_right _ h))
theorem mX12_fault_0_1 : Cond.fieldLink RX12 151 "HissHornModel" "thrown" "I" ∈ wsX12_fault := (List.mem_cons_of_mem _ (List.mem_append_left _ (List.mem_append_left _ (List.mem_of_getElem? (i := 0) rfl))))
theorem mX12_fault_0_2 : Cond.fieldLink RX12 9 "HissHornModel" "tape" "[B" ∈ wsX12_fault := (List.mem_cons_of_mem _ (List.mem_append_left _ (List.mem_append_left _ (List.mem_of_getElem? (i := 1) rfl))))
theorem mX12_fault_0_3 : Cond.fieldLink RX12 162 "HissHornModel" "length" "I" ∈ wsX12_fault := (List.mem_cons_of_mem _ (List.mem_append_left _ (List.mem_append_left _ (List.mem_of_getElem? (i := 2) rfl))))
theorem mX12_fault_0_4 : Cond.fieldLink RX12 182 "HissHornModel" "fault" "I" ∈ wsX12_fault := (List.mem_cons_of_mem _ (List.mem_append_left _ (List.mem_append_left _ (List.mem_of_getElem? (i := 3) rfl))))
def fX12_fault_0 (x1 : Int32) (u : SX) : Option (Int32 × SX) := (lt (sI u 0 0) fun u1 => ((fX12_isIn x1 0 2).bind fun r3 => (if r3 = 0 then (some ((-2), u1)) else ((fX12_goThrough_0_a1 0 (u1.1 3) x1 u1).bind fun q => match q with | (r6, u7) => (some (u7.1 7, u7))))))
set_option maxHeartbeats 4000000 in
set_option maxRecDepth 100000 in
theorem wX12_fault_0 {p : Program} {l : Launch} {e : Env} {s : State} {m : MethodId} {args : Array Value} {below : List Frame} {meth : Method} {c : Code} {D : va_G} {cy : Nat → ClassId} {ad st : Nat → Nat} (C : Cx RX12 cX12_fault 2 (some .int) wsX12_fault p s m args meth c) (hK : Kx D [(cy 0, .int), (cy 1, .long), (cy 2, .boolean), (cy 3, .byte), (cy 4, .object "HissHorn$Text")] st s) (hJ : JM ad) (x1 : Int32) {u : SX} {r : Int32} {u' : SX} {H : Heap} {locs : List Loc} {ls : Array Slot} (h : fX12_fault_0 x1 u = some (r, u')) (hP : va_P D vwCl (VM cy ad st u) H) (hS : va_S (Ax (AM ad) s.heap.size) s.heap H locs) (hl : lv_has ls 2 [(0, .ref (ad 0)), (1, .int x1)]) : W p l e rmX12_fault_0 s m args below meth c H locs 0 0 (MQ below (Qi D (VM cy ad st) (AM ad) s.heap.size r u') args s 0 0 (Ax (AM ad) s.heap.size)) (F0 m 0 ls []) := by
  unfold fX12_fault_0 at h
  refine lv_aload_n C.1 C.2.1 dX12_fault_0 rfl (lv_at hl 0 rfl) ?_
  refine lv_iconst (v := 0) C.1 C.2.1 dX12_fault_1 (by decide) ?_
  refine pM_0_thrown C hX12_fault_0_X12 hK hP hJ hS mX12_fault_0_1 dX12_fault_2 (fun H locs hP hS => ?_)
  obtain ⟨u1, hu2, h⟩ := lt_some h
  rw [← hu2] at hP
  refine lv_iload_n C.1 C.2.1 dX12_fault_5 rfl (lv_at hl 1 rfl) ?_
  refine lv_iconst (v := 0) C.1 C.2.1 dX12_fault_6 (by decide) ?_
  refine lv_iconst (v := 2) C.1 C.2.1 dX12_fault_7 (by decide) ?_
  obtain ⟨r3, hc5, h⟩ := bd_some h
  refine cs_i (As := [.int x1, .int 0, .int 2]) (rest := []) C hK hP hS (metX12_isIn l D cy st _ x1 0 2 hc5) (va_cwS 3 C.2.2.2.2.2.1 gX12_fault_X12_isIn rfl rfl rfl (by decide +kernel) ⟨(Nat.le_of_ble_eq_true rfl), (Nat.le_of_ble_eq_true rfl)⟩) rfl hl.1 rfl (Nat.le_of_ble_eq_true rfl) dX12_fault_8 ⟨Nat.zero_le _, Nat.zero_le _⟩ (fun H locs hP hS => ?_)
  refine lv_if_ne (tgt := 17) C.1 C.2.1 dX12_fault_11 (by decide) (fun c11 => ?_) (fun c11 => ?_)
  · rw [if_neg c11] at h
    refine lv_aload_n C.1 C.2.1 dX12_fault_17 rfl (lv_at hl 0 rfl) ?_
    refine lv_aload_n C.1 C.2.1 dX12_fault_18 rfl (lv_at hl 0 rfl) ?_
    refine gM_0_tape C hX12_fault_0_X12 hK hP mX12_fault_0_2 dX12_fault_19 ?_
    refine lv_iconst (v := 0) C.1 C.2.1 dX12_fault_22 (by decide) ?_
    refine lv_aload_n C.1 C.2.1 dX12_fault_23 rfl (lv_at hl 0 rfl) ?_
    refine gM_0_length C hX12_fault_0_X12 hK hP mX12_fault_0_3 dX12_fault_24 ?_
    refine lv_iload_n C.1 C.2.1 dX12_fault_27 rfl (lv_at hl 1 rfl) ?_
    obtain ⟨⟨r6, u7⟩, hc8, h⟩ := bd_some h
    try dsimp only at h
    refine cg_v (As := [.ref (ad 1), .int 0, .int (u1.1 3), .int x1]) (rest := []) C hK hP hS (metX12_goThrough_0_a1 l D cy ad st hJ _ 0 (u1.1 3) x1 hc8) (cwV 4 C.2.2.2.2.2.1 gX12_fault_X12_goThrough rfl rfl rfl (by decide +kernel) ⟨(Nat.le_of_ble_eq_true rfl), (Nat.le_of_ble_eq_true rfl)⟩) 0 12 rfl rfl rfl hl.1 rfl (Nat.le_of_ble_eq_true rfl) dX12_fault_28 ⟨Nat.zero_le _, Nat.zero_le _⟩ (fun H locs hP hS => ?_)
    refine lv_aload_n C.1 C.2.1 dX12_fault_31 rfl (lv_at hl 0 rfl) ?_
    refine gM_0_fault C hX12_fault_0_X12 hK hP mX12_fault_0_4 dX12_fault_32 ?_
    cases h
    exact rt_i C hP hS dX12_fault_35
  · rw [if_pos c11] at h
    refine lv_bipush (v := (-2)) C.1 C.2.1 dX12_fault_14 (by decide) ?_
    cases h
    exact rt_i C hP hS dX12_fault_16
theorem metX12_fault_0 (l : Launch) (D : va_G) (cy : Nat → ClassId) (ad st : Nat → Nat) (hJ : JM ad) (sz : Nat) (x1 : Int32) {u : SX} {r : Int32} {u' : SX} (h : fX12_fault_0 x1 u = some (r, u')) : Met l yX12_fault wsX12_fault rmX12_fault_0 (va_Pc [.ref (ad 0), .int x1] (Px D [(cy 0, .int), (cy 1, .long), (cy 2, .boolean), (cy 3, .byte), (cy 4, .object "HissHorn$Text")] st (VM cy ad st) sz u)) (Qi D (VM cy ad st) (AM ad) sz r u') 0 0 (Ax (AM ad) sz) := by
  refine Met.ofW (cc := cX12_fault) (maxL := 2) (ret := (some .int)) (by decide) rfl ?_
  intro p e s m args below meth c s₁ B hml hv
  obtain ⟨rfl, hsz, hP, hK⟩ := hv
  subst hsz
  have C : Cx RX12 cX12_fault 2 (some .int) wsX12_fault p s m _ meth c := ⟨B.exec, B.bytes, hml, B.returns, findClass_of_methodNamed B.named, atoms_spec (ws := wsX12_fault) B.pre, B.notSynchronized⟩
  have hl := lv_entry ([.ref (ad 0), .int x1]) (n := 2) (Nat.le_of_ble_eq_true rfl)
  rw [lg_entry_eq]
  exact wX12_fault_0 C hK hJ x1 h hP va_S.rf hl

theorem dX12_text_74 : decode cX12_text 74 = .ok (.iload_n 3, 1) := by decide +kernel
theorem dX12_text_75 : decode cX12_text 75 = .ok (.aload_n 0, 1) := by decide +kernel
theorem dX12_text_76 : decode cX12_text 76 = .ok (.getfield 162, 3) := by decide +kernel
theorem dX12_text_79 : decode cX12_text 79 = .ok (.if_icmp .ge 26, 3) := by decide +kernel
theorem dX12_text_82 : decode cX12_text 82 = .ok (.aload_n 0, 1) := by decide +kernel
theorem dX12_text_83 : decode cX12_text 83 = .ok (.getfield 13, 3) := by decide +kernel
theorem dX12_text_86 : decode cX12_text 86 = .ok (.bipush 120, 2) := by decide +kernel
theorem dX12_text_88 : decode cX12_text 88 = .ok (.iload_n 2, 1) := by decide +kernel
theorem dX12_text_89 : decode cX12_text 89 = .ok (.imul, 1) := by decide +kernel
theorem dX12_text_90 : decode cX12_text 90 = .ok (.iload_n 3, 1) := by decide +kernel
theorem dX12_text_91 : decode cX12_text 91 = .ok (.iadd, 1) := by decide +kernel
theorem dX12_text_92 : decode cX12_text 92 = .ok (.aload_n 0, 1) := by decide +kernel
theorem dX12_text_93 : decode cX12_text 93 = .ok (.getfield 9, 3) := by decide +kernel
theorem dX12_text_96 : decode cX12_text 96 = .ok (.iload_n 3, 1) := by decide +kernel
theorem dX12_text_97 : decode cX12_text 97 = .ok (.baload, 1) := by decide +kernel
theorem dX12_text_98 : decode cX12_text 98 = .ok (.bastore, 1) := by decide +kernel
theorem dX12_text_99 : decode cX12_text 99 = .ok (.iinc 3 1, 3) := by decide +kernel
theorem dX12_text_102 : decode cX12_text 102 = .ok (.goto (-28), 3) := by decide +kernel
theorem dX12_text_105 : decode cX12_text 105 = .ok (.aload_n 0, 1) := by decide +kernel
theorem dX12_text_106 : decode cX12_text 106 = .ok (.getfield 16, 3) := by decide +kernel
theorem dX12_text_109 : decode cX12_text 109 = .ok (.iload_n 2, 1) := by decide +kernel
theorem dX12_text_110 : decode cX12_text 110 = .ok (.aload_n 0, 1) := by decide +kernel
theorem dX12_text_111 : decode cX12_text 111 = .ok (.getfield 162, 3) := by decide +kernel
theorem dX12_text_114 : decode cX12_text 114 = .ok (.iastore, 1) := by decide +kernel
theorem dX12_text_115 : decode cX12_text 115 = .ok (.aload_n 0, 1) := by decide +kernel
theorem dX12_text_116 : decode cX12_text 116 = .ok (.iconst 0, 1) := by decide +kernel
theorem dX12_text_117 : decode cX12_text 117 = .ok (.putfield 162, 3) := by decide +kernel
theorem dX12_text_120 : decode cX12_text 120 = .ok (.aload_n 0, 1) := by decide +kernel
theorem dX12_text_121 : decode cX12_text 121 = .ok (.getfield 20, 3) := by decide +kernel
theorem dX12_text_124 : decode cX12_text 124 = .ok (.iload_n 1, 1) := by decide +kernel
theorem dX12_text_125 : decode cX12_text 125 = .ok (.dup2, 1) := by decide +kernel
theorem dX12_text_126 : decode cX12_text 126 = .ok (.iaload, 1) := by decide +kernel
theorem dX12_text_127 : decode cX12_text 127 = .ok (.iconst 1, 1) := by decide +kernel
theorem dX12_text_128 : decode cX12_text 128 = .ok (.iadd, 1) := by decide +kernel
theorem dX12_text_129 : decode cX12_text 129 = .ok (.iastore, 1) := by decide +kernel
theorem dX12_text_130 : decode cX12_text 130 = .ok (.aload_n 0, 1) := by decide +kernel
theorem dX12_text_131 : decode cX12_text 131 = .ok (.getfield 20, 3) := by decide +kernel
theorem dX12_text_134 : decode cX12_text 134 = .ok (.iload_n 1, 1) := by decide +kernel
theorem dX12_text_135 : decode cX12_text 135 = .ok (.iaload, 1) := by decide +kernel
theorem dX12_text_136 : decode cX12_text 136 = .ok (.iconst 1, 1) := by decide +kernel
theorem dX12_text_137 : decode cX12_text 137 = .ok (.isub, 1) := by decide +kernel
theorem dX12_text_138 : decode cX12_text 138 = .ok (.ireturn, 1) := by decide +kernel
theorem dX12_text_31 : decode cX12_text 31 = .ok (.if_icmp .ne 5, 3) := by decide +kernel
theorem dX12_text_36 : decode cX12_text 36 = .ok (.aload_n 0, 1) := by decide +kernel
theorem dX12_text_37 : decode cX12_text 37 = .ok (.aload_n 0, 1) := by decide +kernel
theorem dX12_text_38 : decode cX12_text 38 = .ok (.getfield 9, 3) := by decide +kernel
theorem dX12_text_41 : decode cX12_text 41 = .ok (.iconst 0, 1) := by decide +kernel
theorem dX12_text_42 : decode cX12_text 42 = .ok (.aload_n 0, 1) := by decide +kernel
theorem dX12_text_43 : decode cX12_text 43 = .ok (.getfield 162, 3) := by decide +kernel
theorem dX12_text_46 : decode cX12_text 46 = .ok (.iload_n 1, 1) := by decide +kernel
set_option maxRecDepth 20000 in
theorem ggX12_text_X12_goThrough : GoodIn wsX12_text wsX12_goThrough := goodIn_r _ [15, 16, 17, 18, 19, 20, 5, 21, 22, 23, 24, 25, 26, 10, 27, 28, 29, 30, 31, 32, 33, 34, 35, 36, 37, 38, 39, 40, 41, 42, 43, 44, 45, 46, 47, 48, 49, 50, 51, 52, 53, 54, 55, 56, 57, 58, 59, 60, 61, 62, 63, 64, 65, 66, 67, 68, 69, 70, 71, 72, 73, 74, 75, 76, 77, 78, 79, 80, 81, 82, 83, 84, 85, 86, 87, 88, 89, 90, 91, 92, 93, 94, 95, 96, 97, 98, 99, 100, 101, 102, 103, 104, 105, 106, 107, 108, 109, 110, 111, 112, 113, 114, 115, 116, 117, 118, 119, 120, 121, 122, 123, 124, 125, 126, 127, 128, 129, 130, 131, 132, 133, 134, 135, 136, 137, 138, 139, 140, 141, 142, 143, 144, 145, 146, 147, 148, 149, 150, 151, 152, 153, 154, 155, 156, 157, 158, 159, 160, 161, 162, 163, 164, 165, 166, 167, 168, 169, 170, 171, 172, 173, 174, 175, 176, 177, 178, 179, 180, 181, 182, 183, 184, 185, 186, 187, 188, 189, 190, 191, 192, 193, 194, 195, 196, 197, 198, 199, 200, 201, 202, 203, 204, 205, 206, 207, 208, 209, 210, 211, 212, 213, 214, 215, 216, 217, 218, 219, 220, 221, 222, 223, 224, 225, 226, 227, 228, 229, 230, 231, 232, 233, 234, 235, 236, 237, 238, 239, 240, 241, 242, 243, 244, 245, 246, 247, 248] (by decide +kernel) (by decide +kernel)
set_option maxRecDepth 20000 in
theorem gX12_text_X12_goThrough : GoodIn wsX12_text (wsV RX12 267 RX12 yX12_goThrough wsX12_goThrough) := goodIn_app (goodIn_of _ (by decide +kernel)) ggX12_text_X12_goThrough
theorem dX12_text_47 : decode cX12_text 47 = .ok (.invokevirtual 267, 3) := by decide +kernel
theorem dX12_text_50 : decode cX12_text 50 = .ok (.aload_n 0, 1) := by decide +kernel
theorem dX12_text_51 : decode cX12_text 51 = .ok (.getfield 182, 3) := by decide +kernel
theorem dX12_text_54 : decode cX12_text 54 = .ok (.iconst (-1), 1) := by decide +kernel
theorem dX12_text_55 : decode cX12_text 55 = .ok (.if_icmp .eq 5, 3) := by decide +kernel
theorem dX12_text_60 : decode cX12_text 60 = .ok (.bipush 12, 2) := by decide +kernel
theorem dX12_text_62 : decode cX12_text 62 = .ok (.iload_n 1, 1) := by decide +kernel
theorem dX12_text_63 : decode cX12_text 63 = .ok (.imul, 1) := by decide +kernel
theorem dX12_text_64 : decode cX12_text 64 = .ok (.aload_n 0, 1) := by decide +kernel
theorem dX12_text_65 : decode cX12_text 65 = .ok (.getfield 20, 3) := by decide +kernel
theorem dX12_text_68 : decode cX12_text 68 = .ok (.iload_n 1, 1) := by decide +kernel
theorem dX12_text_69 : decode cX12_text 69 = .ok (.iaload, 1) := by decide +kernel
theorem dX12_text_70 : decode cX12_text 70 = .ok (.iadd, 1) := by decide +kernel
theorem dX12_text_71 : decode cX12_text 71 = .ok (.istore_n 2, 1) := by decide +kernel
theorem dX12_text_72 : decode cX12_text 72 = .ok (.iconst 0, 1) := by decide +kernel
theorem dX12_text_73 : decode cX12_text 73 = .ok (.istore_n 3, 1) := by decide +kernel
theorem dX12_text_58 : decode cX12_text 58 = .ok (.iconst (-1), 1) := by decide +kernel
theorem dX12_text_59 : decode cX12_text 59 = .ok (.ireturn, 1) := by decide +kernel
theorem dX12_text_34 : decode cX12_text 34 = .ok (.iconst (-1), 1) := by decide +kernel
theorem dX12_text_35 : decode cX12_text 35 = .ok (.ireturn, 1) := by decide +kernel
theorem dX12_text_0 : decode cX12_text 0 = .ok (.aload_n 0, 1) := by decide +kernel
theorem dX12_text_1 : decode cX12_text 1 = .ok (.iconst 0, 1) := by decide +kernel
theorem dX12_text_2 : decode cX12_text 2 = .ok (.putfield 151, 3) := by decide +kernel
theorem dX12_text_5 : decode cX12_text 5 = .ok (.iload_n 1, 1) := by decide +kernel
theorem dX12_text_6 : decode cX12_text 6 = .ok (.iconst 0, 1) := by decide +kernel
theorem dX12_text_7 : decode cX12_text 7 = .ok (.iconst 2, 1) := by decide +kernel
set_option maxRecDepth 20000 in
theorem ggX12_text_X12_isIn : GoodIn wsX12_text wsX12_isIn := goodIn_r _ [11] (by decide +kernel) (by decide +kernel)
set_option maxRecDepth 20000 in
theorem gX12_text_X12_isIn : GoodIn wsX12_text (va_wsS RX12 155 yX12_isIn wsX12_isIn) := goodIn_app (goodIn_of _ (by decide +kernel)) ggX12_text_X12_isIn
theorem dX12_text_8 : decode cX12_text 8 = .ok (.invokestatic 155, 3) := by decide +kernel
theorem dX12_text_11 : decode cX12_text 11 = .ok (.ifCond .eq 23, 3) := by decide +kernel
theorem dX12_text_14 : decode cX12_text 14 = .ok (.aload_n 0, 1) := by decide +kernel
theorem dX12_text_15 : decode cX12_text 15 = .ok (.getfield 20, 3) := by decide +kernel
theorem dX12_text_18 : decode cX12_text 18 = .ok (.iload_n 1, 1) := by decide +kernel
theorem dX12_text_19 : decode cX12_text 19 = .ok (.iaload, 1) := by decide +kernel
theorem dX12_text_20 : decode cX12_text 20 = .ok (.iload_n 1, 1) := by decide +kernel
theorem dX12_text_21 : decode cX12_text 21 = .ok (.ifCond .ne 8, 3) := by decide +kernel
theorem dX12_text_29 : decode cX12_text 29 = .ok (.bipush 6, 2) := by decide +kernel
theorem dX12_text_24 : decode cX12_text 24 = .ok (.bipush 12, 2) := by decide +kernel
theorem dX12_text_26 : decode cX12_text 26 = .ok (.goto 5, 3) := by decide +kernel
/-- HissHornModel.text(I)I of cell 0 -/
def rmX12_text_0 : Room := { frames := 135, cells := 0, slots := 0, locals := 8354 }
theorem hX12_text_0_X12 : ∀ w ∈ u_ws RX12 TX12 69, w ∈ wsX12_text := fun w h => (List.mem_cons_of_mem _ (List.mem_append_right _ h))
theorem mX12_text_0_1 : Cond.fieldLink RX12 151 "HissHornModel" "thrown" "I" ∈ wsX12_text := (List.mem_cons_of_mem _ (List.mem_append_left _ (List.mem_append_left _ (List.mem_of_getElem? (i := 0) rfl))))
theorem mX12_text_0_2 : Cond.fieldLink RX12 20 "HissHornModel" "textMany" "[I" ∈ wsX12_text := (List.mem_cons_of_mem _ (List.mem_append_left _ (List.mem_append_left _ (List.mem_of_getElem? (i := 1) rfl))))
theorem mX12_text_0_3 : Cond.fieldLink RX12 9 "HissHornModel" "tape" "[B" ∈ wsX12_text := (List.mem_cons_of_mem _ (List.mem_append_left _ (List.mem_append_left _ (List.mem_of_getElem? (i := 2) rfl))))
theorem mX12_text_0_4 : Cond.fieldLink RX12 162 "HissHornModel" "length" "I" ∈ wsX12_text := (List.mem_cons_of_mem _ (List.mem_append_left _ (List.mem_append_left _ (List.mem_of_getElem? (i := 3) rfl))))
theorem mX12_text_0_5 : Cond.fieldLink RX12 182 "HissHornModel" "fault" "I" ∈ wsX12_text := (List.mem_cons_of_mem _ (List.mem_append_left _ (List.mem_append_left _ (List.mem_of_getElem? (i := 4) rfl))))
theorem mX12_text_0_6 : Cond.fieldLink RX12 13 "HissHornModel" "texts" "[B" ∈ wsX12_text := (List.mem_cons_of_mem _ (List.mem_append_left _ (List.mem_append_left _ (List.mem_of_getElem? (i := 5) rfl))))
def LX12_text_0_74 (k105 : Int32 → Int32 → SX → Option (Int32 × SX)) : Nat → Int32 → Int32 → Int32 → SX → Option (Int32 × SX)
  | 0, _, _, _, _ => none
  | n + 1, z1, z2, z3, u => (if (u.1 3) ≤ z3 then (k105 z1 z2 u) else (gd (inb z3 120) (gd (inb ((120 * z2) + z3) 4320) (lt (sA u 2 (upd (u.2.1 2) ((120 * z2) + z3).toNatClampNeg (vp_nar .byte (u.2.1 1 z3.toNatClampNeg)))) fun u15 => ((LX12_text_0_74 k105 n) z1 z2 (z3 + 1) u15)))))
theorem mX12_text_0_7 : Cond.fieldLink RX12 16 "HissHornModel" "textLong" "[I" ∈ wsX12_text := (List.mem_cons_of_mem _ (List.mem_append_left _ (List.mem_append_left _ (List.mem_of_getElem? (i := 6) rfl))))
def GX12_text_0_105 (z1 : Int32) (z2 : Int32) (u : SX) : Option (Int32 × SX) := (gd (inb z2 36) (lt (sA u 3 (upd (u.2.1 3) z2.toNatClampNeg (u.1 3))) fun u18 => (lt (sI u18 3 0) fun u20 => (gd (inb z1 3) (gd (inb z1 3) (lt (sA u20 4 (upd (u20.2.1 4) z1.toNatClampNeg ((u20.2.1 4 z1.toNatClampNeg) + 1))) fun u24 => (gd (inb z1 3) (some ((u24.2.1 4 z1.toNatClampNeg) - 1, u24)))))))))
def GX12_text_0_31 (z1 : Int32) (y0 : Int32) (y1 : Int32) (u : SX) : Option (Int32 × SX) := (if y1 = y0 then (some ((-1), u)) else ((fX12_goThrough_0_a1 0 (u.1 3) z1 u).bind fun q => match q with | (r7, u8) => (if (u8.1 7) = (-1) then (gd (inb z1 3) (lt ((12 * z1) + (u8.2.1 4 z1.toNatClampNeg)) fun v11 => (LX12_text_0_74 GX12_text_0_105 5000 z1 v11 0 u8))) else (some ((-1), u8)))))
def fX12_text_0 (x1 : Int32) (u : SX) : Option (Int32 × SX) := (lt (sI u 0 0) fun u1 => ((fX12_isIn x1 0 2).bind fun r3 => (if r3 = 0 then (some ((-1), u1)) else (gd (inb x1 3) (if x1 = 0 then (GX12_text_0_31 x1 12 (u1.2.1 4 x1.toNatClampNeg) u1) else (GX12_text_0_31 x1 6 (u1.2.1 4 x1.toNatClampNeg) u1))))))
set_option maxHeartbeats 4000000 in
set_option maxRecDepth 100000 in
theorem wLX12_text_0_74 {p : Program} {l : Launch} {e : Env} {s : State} {m : MethodId} {args : Array Value} {below : List Frame} {meth : Method} {c : Code} {D : va_G} {cy : Nat → ClassId} {ad st : Nat → Nat} (C : Cx RX12 cX12_text 4 (some .int) wsX12_text p s m args meth c) (hK : Kx D [(cy 0, .int), (cy 1, .long), (cy 2, .boolean), (cy 3, .byte), (cy 4, .object "HissHorn$Text")] st s) (hJ : JM ad) {r : Int32} {u' : SX} {k105 : Int32 → Int32 → SX → Option (Int32 × SX)} (hk105 : ∀ (z1 : Int32) (z2 : Int32) (u : SX) (H : Heap) (locs : List Loc) (ls : Array Slot), k105 z1 z2 u = some (r, u') → va_P D vwCl (VM cy ad st u) H → va_S (Ax (AM ad) s.heap.size) s.heap H locs → lv_has ls 4 [(0, .ref (ad 0)), (1, .int z1), (2, .int z2)] → W p l e rmX12_text_0 s m args below meth c H locs 0 0 (MQ below (Qi D (VM cy ad st) (AM ad) s.heap.size r u') args s 0 0 (Ax (AM ad) s.heap.size)) (F0 m 105 ls [])) : ∀ (n : Nat) (z1 : Int32) (z2 : Int32) (z3 : Int32) (u : SX) (H : Heap) (locs : List Loc) (ls : Array Slot), LX12_text_0_74 k105 n z1 z2 z3 u = some (r, u') → va_P D vwCl (VM cy ad st u) H → va_S (Ax (AM ad) s.heap.size) s.heap H locs → lv_has ls 4 [(0, .ref (ad 0)), (1, .int z1), (2, .int z2), (3, .int z3)] → W p l e rmX12_text_0 s m args below meth c H locs 0 0 (MQ below (Qi D (VM cy ad st) (AM ad) s.heap.size r u') args s 0 0 (Ax (AM ad) s.heap.size)) (F0 m 74 ls []) := by
  intro n
  induction n with
  | zero =>
    intro z1 z2 z3 u H locs ls h
    exact absurd h (by intro q; cases q)
  | succ n ih =>
    intro z1 z2 z3 u H locs ls h hP hS hl
    rw [LX12_text_0_74] at h
    refine lv_iload_n C.1 C.2.1 dX12_text_74 rfl (lv_at hl 3 rfl) ?_
    refine lv_aload_n C.1 C.2.1 dX12_text_75 rfl (lv_at hl 0 rfl) ?_
    refine gM_0_length C hX12_text_0_X12 hK hP mX12_text_0_4 dX12_text_76 ?_
    refine lv_icmp_ge (tgt := 105) C.1 C.2.1 dX12_text_79 (by decide) (fun c79 => ?_) (fun c79 => ?_)
    · rw [if_pos c79] at h
      exact hk105 _ _ _ _ _ _ h hP hS (lv_sub hl [0, 1, 2] rfl)
    · rw [if_neg c79] at h
      refine lv_aload_n C.1 C.2.1 dX12_text_82 rfl (lv_at hl 0 rfl) ?_
      refine gM_0_texts C hX12_text_0_X12 hK hP mX12_text_0_6 dX12_text_83 ?_
      refine lv_bipush (v := 120) C.1 C.2.1 dX12_text_86 (by decide) ?_
      refine lv_iload_n C.1 C.2.1 dX12_text_88 rfl (lv_at hl 2 rfl) ?_
      refine lv_imul C.1 C.2.1 dX12_text_89 ?_
      refine lv_iload_n C.1 C.2.1 dX12_text_90 rfl (lv_at hl 3 rfl) ?_
      refine lv_iadd C.1 C.2.1 dX12_text_91 ?_
      refine lv_aload_n C.1 C.2.1 dX12_text_92 rfl (lv_at hl 0 rfl) ?_
      refine gM_0_tape C hX12_text_0_X12 hK hP mX12_text_0_3 dX12_text_93 ?_
      refine lv_iload_n C.1 C.2.1 dX12_text_96 rfl (lv_at hl 3 rfl) ?_
      obtain ⟨hg13, h⟩ := gd_some h
      refine lM_1 C hK hP hg13 dX12_text_97 ?_
      obtain ⟨hg14, h⟩ := gd_some h
      refine tM_2 C hK hP hJ hS hg14 dX12_text_98 (fun H locs hP hS => ?_)
      obtain ⟨u15, hu16, h⟩ := lt_some h
      rw [← hu16] at hP
      refine lv_iinc (v := z3 + 1) (lv' := [(3, .int (z3 + 1)), (0, .ref (ad 0)), (1, .int z1), (2, .int z2)]) C.1 C.2.1 dX12_text_99 hl (k := 3) rfl rfl (by decide) rfl (fun ls hl => ?_)
      replace hl := lv_sub (l' := [(0, .ref (ad 0)), (1, .int z1), (2, .int z2), (3, .int (z3 + 1))]) hl [1, 2, 3, 0] rfl
      refine lv_goto (tgt := 74) C.1 C.2.1 dX12_text_102 (by decide) ?_
      exact ih _ _ _ _ _ _ _ h hP hS hl
set_option maxHeartbeats 4000000 in
set_option maxRecDepth 100000 in
theorem wGX12_text_0_105 {p : Program} {l : Launch} {e : Env} {s : State} {m : MethodId} {args : Array Value} {below : List Frame} {meth : Method} {c : Code} {D : va_G} {cy : Nat → ClassId} {ad st : Nat → Nat} (C : Cx RX12 cX12_text 4 (some .int) wsX12_text p s m args meth c) (hK : Kx D [(cy 0, .int), (cy 1, .long), (cy 2, .boolean), (cy 3, .byte), (cy 4, .object "HissHorn$Text")] st s) (hJ : JM ad) {r : Int32} {u' : SX}   (z1 : Int32) (z2 : Int32) (u : SX) (H : Heap) (locs : List Loc) (ls : Array Slot) (h : GX12_text_0_105 z1 z2 u = some (r, u')) (hP : va_P D vwCl (VM cy ad st u) H) (hS : va_S (Ax (AM ad) s.heap.size) s.heap H locs) (hl : lv_has ls 4 [(0, .ref (ad 0)), (1, .int z1), (2, .int z2)]) : W p l e rmX12_text_0 s m args below meth c H locs 0 0 (MQ below (Qi D (VM cy ad st) (AM ad) s.heap.size r u') args s 0 0 (Ax (AM ad) s.heap.size)) (F0 m 105 ls []) := by
  unfold GX12_text_0_105 at h
  refine lv_aload_n C.1 C.2.1 dX12_text_105 rfl (lv_at hl 0 rfl) ?_
  refine gM_0_textLong C hX12_text_0_X12 hK hP mX12_text_0_7 dX12_text_106 ?_
  refine lv_iload_n C.1 C.2.1 dX12_text_109 rfl (lv_at hl 2 rfl) ?_
  refine lv_aload_n C.1 C.2.1 dX12_text_110 rfl (lv_at hl 0 rfl) ?_
  refine gM_0_length C hX12_text_0_X12 hK hP mX12_text_0_4 dX12_text_111 ?_
  obtain ⟨hg17, h⟩ := gd_some h
  refine tM_3 C hK hP hJ hS hg17 dX12_text_114 (fun H locs hP hS => ?_)
  obtain ⟨u18, hu19, h⟩ := lt_some h
  rw [← hu19] at hP
  refine lv_aload_n C.1 C.2.1 dX12_text_115 rfl (lv_at hl 0 rfl) ?_
  refine lv_iconst (v := 0) C.1 C.2.1 dX12_text_116 (by decide) ?_
  refine pM_0_length C hX12_text_0_X12 hK hP hJ hS mX12_text_0_4 dX12_text_117 (fun H locs hP hS => ?_)
  obtain ⟨u20, hu21, h⟩ := lt_some h
  rw [← hu21] at hP
  refine lv_aload_n C.1 C.2.1 dX12_text_120 rfl (lv_at hl 0 rfl) ?_
  refine gM_0_textMany C hX12_text_0_X12 hK hP mX12_text_0_2 dX12_text_121 ?_
  refine lv_iload_n C.1 C.2.1 dX12_text_124 rfl (lv_at hl 1 rfl) ?_
  refine lv_dup2_11 C.1 C.2.1 dX12_text_125 rfl rfl ?_
  obtain ⟨hg22, h⟩ := gd_some h
  refine lM_4 C hK hP hg22 dX12_text_126 ?_
  refine lv_iconst (v := 1) C.1 C.2.1 dX12_text_127 (by decide) ?_
  refine lv_iadd C.1 C.2.1 dX12_text_128 ?_
  obtain ⟨hg23, h⟩ := gd_some h
  refine tM_4 C hK hP hJ hS hg23 dX12_text_129 (fun H locs hP hS => ?_)
  obtain ⟨u24, hu25, h⟩ := lt_some h
  rw [← hu25] at hP
  refine lv_aload_n C.1 C.2.1 dX12_text_130 rfl (lv_at hl 0 rfl) ?_
  refine gM_0_textMany C hX12_text_0_X12 hK hP mX12_text_0_2 dX12_text_131 ?_
  refine lv_iload_n C.1 C.2.1 dX12_text_134 rfl (lv_at hl 1 rfl) ?_
  obtain ⟨hg26, h⟩ := gd_some h
  refine lM_4 C hK hP hg26 dX12_text_135 ?_
  refine lv_iconst (v := 1) C.1 C.2.1 dX12_text_136 (by decide) ?_
  refine lv_isub C.1 C.2.1 dX12_text_137 ?_
  cases h
  exact rt_i C hP hS dX12_text_138
set_option maxHeartbeats 4000000 in
set_option maxRecDepth 100000 in
theorem wGX12_text_0_31 {p : Program} {l : Launch} {e : Env} {s : State} {m : MethodId} {args : Array Value} {below : List Frame} {meth : Method} {c : Code} {D : va_G} {cy : Nat → ClassId} {ad st : Nat → Nat} (C : Cx RX12 cX12_text 4 (some .int) wsX12_text p s m args meth c) (hK : Kx D [(cy 0, .int), (cy 1, .long), (cy 2, .boolean), (cy 3, .byte), (cy 4, .object "HissHorn$Text")] st s) (hJ : JM ad) {r : Int32} {u' : SX}   (z1 : Int32) (y0 : Int32) (y1 : Int32) (u : SX) (H : Heap) (locs : List Loc) (ls : Array Slot) (h : GX12_text_0_31 z1 y0 y1 u = some (r, u')) (hP : va_P D vwCl (VM cy ad st u) H) (hS : va_S (Ax (AM ad) s.heap.size) s.heap H locs) (hl : lv_has ls 4 [(0, .ref (ad 0)), (1, .int z1)]) : W p l e rmX12_text_0 s m args below meth c H locs 0 0 (MQ below (Qi D (VM cy ad st) (AM ad) s.heap.size r u') args s 0 0 (Ax (AM ad) s.heap.size)) (F0 m 31 ls [.int y0, .int y1]) := by
  unfold GX12_text_0_31 at h
  refine lv_icmp_ne (tgt := 36) C.1 C.2.1 dX12_text_31 (by decide) (fun c31 => ?_) (fun c31 => ?_)
  · rw [if_neg c31] at h
    refine lv_aload_n C.1 C.2.1 dX12_text_36 rfl (lv_at hl 0 rfl) ?_
    refine lv_aload_n C.1 C.2.1 dX12_text_37 rfl (lv_at hl 0 rfl) ?_
    refine gM_0_tape C hX12_text_0_X12 hK hP mX12_text_0_3 dX12_text_38 ?_
    refine lv_iconst (v := 0) C.1 C.2.1 dX12_text_41 (by decide) ?_
    refine lv_aload_n C.1 C.2.1 dX12_text_42 rfl (lv_at hl 0 rfl) ?_
    refine gM_0_length C hX12_text_0_X12 hK hP mX12_text_0_4 dX12_text_43 ?_
    refine lv_iload_n C.1 C.2.1 dX12_text_46 rfl (lv_at hl 1 rfl) ?_
    obtain ⟨⟨r7, u8⟩, hc9, h⟩ := bd_some h
    try dsimp only at h
    refine cg_v (As := [.ref (ad 1), .int 0, .int (u.1 3), .int z1]) (rest := []) C hK hP hS (metX12_goThrough_0_a1 l D cy ad st hJ _ 0 (u.1 3) z1 hc9) (cwV 4 C.2.2.2.2.2.1 gX12_text_X12_goThrough rfl rfl rfl (by decide +kernel) ⟨(Nat.le_of_ble_eq_true rfl), (Nat.le_of_ble_eq_true rfl)⟩) 0 12 rfl rfl rfl hl.1 rfl (Nat.le_of_ble_eq_true rfl) dX12_text_47 ⟨Nat.zero_le _, Nat.zero_le _⟩ (fun H locs hP hS => ?_)
    refine lv_aload_n C.1 C.2.1 dX12_text_50 rfl (lv_at hl 0 rfl) ?_
    refine gM_0_fault C hX12_text_0_X12 hK hP mX12_text_0_5 dX12_text_51 ?_
    refine lv_iconst (v := (-1)) C.1 C.2.1 dX12_text_54 (by decide) ?_
    refine lv_icmp_eq (tgt := 60) C.1 C.2.1 dX12_text_55 (by decide) (fun c55 => ?_) (fun c55 => ?_)
    · rw [if_pos c55] at h
      refine lv_bipush (v := 12) C.1 C.2.1 dX12_text_60 (by decide) ?_
      refine lv_iload_n C.1 C.2.1 dX12_text_62 rfl (lv_at hl 1 rfl) ?_
      refine lv_imul C.1 C.2.1 dX12_text_63 ?_
      refine lv_aload_n C.1 C.2.1 dX12_text_64 rfl (lv_at hl 0 rfl) ?_
      refine gM_0_textMany C hX12_text_0_X12 hK hP mX12_text_0_2 dX12_text_65 ?_
      refine lv_iload_n C.1 C.2.1 dX12_text_68 rfl (lv_at hl 1 rfl) ?_
      obtain ⟨hg10, h⟩ := gd_some h
      refine lM_4 C hK hP hg10 dX12_text_69 ?_
      refine lv_iadd C.1 C.2.1 dX12_text_70 ?_
      refine lv_topi (fun v11 hv12 => ?_)
      replace h := lt_e hv12 h
      try dsimp only at h
      refine lv_istore_n (lv' := [(2, .int v11), (0, .ref (ad 0)), (1, .int z1)]) C.1 C.2.1 dX12_text_71 rfl hl (by decide) rfl (fun ls hl => ?_)
      replace hl := lv_sub (l' := [(0, .ref (ad 0)), (1, .int z1), (2, .int v11)]) hl [1, 2, 0] rfl
      refine lv_iconst (v := 0) C.1 C.2.1 dX12_text_72 (by decide) ?_
      refine lv_istore_n (lv' := [(3, .int 0), (0, .ref (ad 0)), (1, .int z1), (2, .int v11)]) C.1 C.2.1 dX12_text_73 rfl hl (by decide) rfl (fun ls hl => ?_)
      replace hl := lv_sub (l' := [(0, .ref (ad 0)), (1, .int z1), (2, .int v11), (3, .int 0)]) hl [1, 2, 3, 0] rfl
      exact wLX12_text_0_74 C hK hJ (wGX12_text_0_105 C hK hJ ) 5000 _ _ _ _ _ _ _ h hP hS hl
    · rw [if_neg c55] at h
      refine lv_iconst (v := (-1)) C.1 C.2.1 dX12_text_58 (by decide) ?_
      cases h
      exact rt_i C hP hS dX12_text_59
  · rw [if_pos c31] at h
    refine lv_iconst (v := (-1)) C.1 C.2.1 dX12_text_34 (by decide) ?_
    cases h
    exact rt_i C hP hS dX12_text_35
set_option maxHeartbeats 4000000 in
set_option maxRecDepth 100000 in
theorem wX12_text_0 {p : Program} {l : Launch} {e : Env} {s : State} {m : MethodId} {args : Array Value} {below : List Frame} {meth : Method} {c : Code} {D : va_G} {cy : Nat → ClassId} {ad st : Nat → Nat} (C : Cx RX12 cX12_text 4 (some .int) wsX12_text p s m args meth c) (hK : Kx D [(cy 0, .int), (cy 1, .long), (cy 2, .boolean), (cy 3, .byte), (cy 4, .object "HissHorn$Text")] st s) (hJ : JM ad) (x1 : Int32) {u : SX} {r : Int32} {u' : SX} {H : Heap} {locs : List Loc} {ls : Array Slot} (h : fX12_text_0 x1 u = some (r, u')) (hP : va_P D vwCl (VM cy ad st u) H) (hS : va_S (Ax (AM ad) s.heap.size) s.heap H locs) (hl : lv_has ls 4 [(0, .ref (ad 0)), (1, .int x1)]) : W p l e rmX12_text_0 s m args below meth c H locs 0 0 (MQ below (Qi D (VM cy ad st) (AM ad) s.heap.size r u') args s 0 0 (Ax (AM ad) s.heap.size)) (F0 m 0 ls []) := by
  unfold fX12_text_0 at h
  refine lv_aload_n C.1 C.2.1 dX12_text_0 rfl (lv_at hl 0 rfl) ?_
  refine lv_iconst (v := 0) C.1 C.2.1 dX12_text_1 (by decide) ?_
  refine pM_0_thrown C hX12_text_0_X12 hK hP hJ hS mX12_text_0_1 dX12_text_2 (fun H locs hP hS => ?_)
  obtain ⟨u1, hu2, h⟩ := lt_some h
  rw [← hu2] at hP
  refine lv_iload_n C.1 C.2.1 dX12_text_5 rfl (lv_at hl 1 rfl) ?_
  refine lv_iconst (v := 0) C.1 C.2.1 dX12_text_6 (by decide) ?_
  refine lv_iconst (v := 2) C.1 C.2.1 dX12_text_7 (by decide) ?_
  obtain ⟨r3, hc5, h⟩ := bd_some h
  refine cs_i (As := [.int x1, .int 0, .int 2]) (rest := []) C hK hP hS (metX12_isIn l D cy st _ x1 0 2 hc5) (va_cwS 3 C.2.2.2.2.2.1 gX12_text_X12_isIn rfl rfl rfl (by decide +kernel) ⟨(Nat.le_of_ble_eq_true rfl), (Nat.le_of_ble_eq_true rfl)⟩) rfl hl.1 rfl (Nat.le_of_ble_eq_true rfl) dX12_text_8 ⟨Nat.zero_le _, Nat.zero_le _⟩ (fun H locs hP hS => ?_)
  refine lv_if_eq (tgt := 34) C.1 C.2.1 dX12_text_11 (by decide) (fun c11 => ?_) (fun c11 => ?_)
  · rw [if_pos c11] at h
    refine lv_iconst (v := (-1)) C.1 C.2.1 dX12_text_34 (by decide) ?_
    cases h
    exact rt_i C hP hS dX12_text_35
  · rw [if_neg c11] at h
    refine lv_aload_n C.1 C.2.1 dX12_text_14 rfl (lv_at hl 0 rfl) ?_
    refine gM_0_textMany C hX12_text_0_X12 hK hP mX12_text_0_2 dX12_text_15 ?_
    refine lv_iload_n C.1 C.2.1 dX12_text_18 rfl (lv_at hl 1 rfl) ?_
    obtain ⟨hg6, h⟩ := gd_some h
    refine lM_4 C hK hP hg6 dX12_text_19 ?_
    refine lv_iload_n C.1 C.2.1 dX12_text_20 rfl (lv_at hl 1 rfl) ?_
    refine lv_if_ne (tgt := 29) C.1 C.2.1 dX12_text_21 (by decide) (fun c21 => ?_) (fun c21 => ?_)
    · rw [if_neg c21] at h
      refine lv_bipush (v := 6) C.1 C.2.1 dX12_text_29 (by decide) ?_
      exact wGX12_text_0_31 C hK hJ _ _ _ _ _ _ _ h hP hS hl
    · rw [if_pos c21] at h
      refine lv_bipush (v := 12) C.1 C.2.1 dX12_text_24 (by decide) ?_
      refine lv_goto (tgt := 31) C.1 C.2.1 dX12_text_26 (by decide) ?_
      exact wGX12_text_0_31 C hK hJ _ _ _ _ _ _ _ h hP hS hl
theorem metX12_text_0 (l : Launch) (D : va_G) (cy : Nat → ClassId) (ad st : Nat → Nat) (hJ : JM ad) (sz : Nat) (x1 : Int32) {u : SX} {r : Int32} {u' : SX} (h : fX12_text_0 x1 u = some (r, u')) : Met l yX12_text wsX12_text rmX12_text_0 (va_Pc [.ref (ad 0), .int x1] (Px D [(cy 0, .int), (cy 1, .long), (cy 2, .boolean), (cy 3, .byte), (cy 4, .object "HissHorn$Text")] st (VM cy ad st) sz u)) (Qi D (VM cy ad st) (AM ad) sz r u') 0 0 (Ax (AM ad) sz) := by
  refine Met.ofW (cc := cX12_text) (maxL := 4) (ret := (some .int)) (by decide) rfl ?_
  intro p e s m args below meth c s₁ B hml hv
  obtain ⟨rfl, hsz, hP, hK⟩ := hv
  subst hsz
  have C : Cx RX12 cX12_text 4 (some .int) wsX12_text p s m _ meth c := ⟨B.exec, B.bytes, hml, B.returns, findClass_of_methodNamed B.named, atoms_spec (ws := wsX12_text) B.pre, B.notSynchronized⟩
  have hl := lv_entry ([.ref (ad 0), .int x1]) (n := 4) (Nat.le_of_ble_eq_true rfl)
  rw [lg_entry_eq]
  exact wX12_text_0 C hK hJ x1 h hP va_S.rf hl

theorem dX12_noLetters_2 : decode cX12_noLetters 2 = .ok (.iload_n 1, 1) := by decide +kernel
theorem dX12_noLetters_3 : decode cX12_noLetters 3 = .ok (.sipush 128, 3) := by decide +kernel
theorem dX12_noLetters_6 : decode cX12_noLetters 6 = .ok (.if_icmp .ge 16, 3) := by decide +kernel
theorem dX12_noLetters_22 : decode cX12_noLetters 22 = .ok (.return_, 1) := by decide +kernel
theorem dX12_noLetters_9 : decode cX12_noLetters 9 = .ok (.aload_n 0, 1) := by decide +kernel
theorem dX12_noLetters_10 : decode cX12_noLetters 10 = .ok (.getfield 23, 3) := by decide +kernel
theorem dX12_noLetters_13 : decode cX12_noLetters 13 = .ok (.iload_n 1, 1) := by decide +kernel
theorem dX12_noLetters_14 : decode cX12_noLetters 14 = .ok (.iconst 0, 1) := by decide +kernel
theorem dX12_noLetters_15 : decode cX12_noLetters 15 = .ok (.iastore, 1) := by decide +kernel
theorem dX12_noLetters_16 : decode cX12_noLetters 16 = .ok (.iinc 1 1, 3) := by decide +kernel
theorem dX12_noLetters_19 : decode cX12_noLetters 19 = .ok (.goto (-17), 3) := by decide +kernel
theorem dX12_noLetters_0 : decode cX12_noLetters 0 = .ok (.iconst 0, 1) := by decide +kernel
theorem dX12_noLetters_1 : decode cX12_noLetters 1 = .ok (.istore_n 1, 1) := by decide +kernel
/-- HissHornModel.noLetters()V of cell 0 -/
def rmX12_noLetters_0 : Room := { frames := 0, cells := 0, slots := 0, locals := 0 }
theorem hX12_noLetters_0_X12 : ∀ w ∈ u_ws RX12 TX12 69, w ∈ wsX12_noLetters := fun w h => (List.mem_cons_of_mem _ (List.mem_append_right _ h))
theorem mX12_noLetters_0_1 : Cond.fieldLink RX12 23 "HissHornModel" "letters" "[I" ∈ wsX12_noLetters := (List.mem_cons_of_mem _ (List.mem_append_left _ (List.mem_of_getElem? (i := 0) rfl)))
def LX12_noLetters_0_2  : Nat → Int32 → SX → Option (Int32 × SX)
  | 0, _, _ => none
  | n + 1, z1, u => (if 128 ≤ z1 then (some (0, u)) else (gd (inb z1 128) (lt (sA u 5 (upd (u.2.1 5) z1.toNatClampNeg 0)) fun u2 => ((LX12_noLetters_0_2 n) (z1 + 1) u2))))
def fX12_noLetters_0  (u : SX) : Option (Int32 × SX) := (LX12_noLetters_0_2  5000 0 u)
set_option maxHeartbeats 4000000 in
set_option maxRecDepth 100000 in
theorem wLX12_noLetters_0_2 {p : Program} {l : Launch} {e : Env} {s : State} {m : MethodId} {args : Array Value} {below : List Frame} {meth : Method} {c : Code} {D : va_G} {cy : Nat → ClassId} {ad st : Nat → Nat} (C : Cx RX12 cX12_noLetters 2 none wsX12_noLetters p s m args meth c) (hK : Kx D [(cy 0, .int), (cy 1, .long), (cy 2, .boolean), (cy 3, .byte), (cy 4, .object "HissHorn$Text")] st s) (hJ : JM ad) {r : Int32} {u' : SX}   : ∀ (n : Nat) (z1 : Int32) (u : SX) (H : Heap) (locs : List Loc) (ls : Array Slot), LX12_noLetters_0_2  n z1 u = some (r, u') → va_P D vwCl (VM cy ad st u) H → va_S (Ax (AM ad) s.heap.size) s.heap H locs → lv_has ls 2 [(0, .ref (ad 0)), (1, .int z1)] → W p l e rmX12_noLetters_0 s m args below meth c H locs 0 0 (MQ below (Qv D (VM cy ad st) (AM ad) s.heap.size r u') args s 0 0 (Ax (AM ad) s.heap.size)) (F0 m 2 ls []) := by
  intro n
  induction n with
  | zero =>
    intro z1 u H locs ls h
    exact absurd h (by intro q; cases q)
  | succ n ih =>
    intro z1 u H locs ls h hP hS hl
    rw [LX12_noLetters_0_2] at h
    refine lv_iload_n C.1 C.2.1 dX12_noLetters_2 rfl (lv_at hl 1 rfl) ?_
    refine lv_sipush (v := 128) C.1 C.2.1 dX12_noLetters_3 (by decide) ?_
    refine lv_icmp_ge (tgt := 22) C.1 C.2.1 dX12_noLetters_6 (by decide) (fun c6 => ?_) (fun c6 => ?_)
    · rw [if_pos c6] at h
      cases h
      exact rt_v C hP hS dX12_noLetters_22
    · rw [if_neg c6] at h
      refine lv_aload_n C.1 C.2.1 dX12_noLetters_9 rfl (lv_at hl 0 rfl) ?_
      refine gM_0_letters C hX12_noLetters_0_X12 hK hP mX12_noLetters_0_1 dX12_noLetters_10 ?_
      refine lv_iload_n C.1 C.2.1 dX12_noLetters_13 rfl (lv_at hl 1 rfl) ?_
      refine lv_iconst (v := 0) C.1 C.2.1 dX12_noLetters_14 (by decide) ?_
      obtain ⟨hg1, h⟩ := gd_some h
      refine tM_5 C hK hP hJ hS hg1 dX12_noLetters_15 (fun H locs hP hS => ?_)
      obtain ⟨u2, hu3, h⟩ := lt_some h
      rw [← hu3] at hP
      refine lv_iinc (v := z1 + 1) (lv' := [(1, .int (z1 + 1)), (0, .ref (ad 0))]) C.1 C.2.1 dX12_noLetters_16 hl (k := 1) rfl rfl (by decide) rfl (fun ls hl => ?_)
      replace hl := lv_sub (l' := [(0, .ref (ad 0)), (1, .int (z1 + 1))]) hl [1, 0] rfl
      refine lv_goto (tgt := 2) C.1 C.2.1 dX12_noLetters_19 (by decide) ?_
      exact ih _ _ _ _ _ h hP hS hl
set_option maxHeartbeats 4000000 in
set_option maxRecDepth 100000 in
theorem wX12_noLetters_0 {p : Program} {l : Launch} {e : Env} {s : State} {m : MethodId} {args : Array Value} {below : List Frame} {meth : Method} {c : Code} {D : va_G} {cy : Nat → ClassId} {ad st : Nat → Nat} (C : Cx RX12 cX12_noLetters 2 none wsX12_noLetters p s m args meth c) (hK : Kx D [(cy 0, .int), (cy 1, .long), (cy 2, .boolean), (cy 3, .byte), (cy 4, .object "HissHorn$Text")] st s) (hJ : JM ad)  {u : SX} {r : Int32} {u' : SX} {H : Heap} {locs : List Loc} {ls : Array Slot} (h : fX12_noLetters_0  u = some (r, u')) (hP : va_P D vwCl (VM cy ad st u) H) (hS : va_S (Ax (AM ad) s.heap.size) s.heap H locs) (hl : lv_has ls 2 [(0, .ref (ad 0))]) : W p l e rmX12_noLetters_0 s m args below meth c H locs 0 0 (MQ below (Qv D (VM cy ad st) (AM ad) s.heap.size r u') args s 0 0 (Ax (AM ad) s.heap.size)) (F0 m 0 ls []) := by
  unfold fX12_noLetters_0 at h
  refine lv_iconst (v := 0) C.1 C.2.1 dX12_noLetters_0 (by decide) ?_
  refine lv_istore_n (lv' := [(1, .int 0), (0, .ref (ad 0))]) C.1 C.2.1 dX12_noLetters_1 rfl hl (by decide) rfl (fun ls hl => ?_)
  replace hl := lv_sub (l' := [(0, .ref (ad 0)), (1, .int 0)]) hl [1, 0] rfl
  exact wLX12_noLetters_0_2 C hK hJ  5000 _ _ _ _ _ h hP hS hl
theorem metX12_noLetters_0 (l : Launch) (D : va_G) (cy : Nat → ClassId) (ad st : Nat → Nat) (hJ : JM ad) (sz : Nat)  {u : SX} {r : Int32} {u' : SX} (h : fX12_noLetters_0  u = some (r, u')) : Met l yX12_noLetters wsX12_noLetters rmX12_noLetters_0 (va_Pc [.ref (ad 0)] (Px D [(cy 0, .int), (cy 1, .long), (cy 2, .boolean), (cy 3, .byte), (cy 4, .object "HissHorn$Text")] st (VM cy ad st) sz u)) (Qv D (VM cy ad st) (AM ad) sz r u') 0 0 (Ax (AM ad) sz) := by
  refine Met.ofW (cc := cX12_noLetters) (maxL := 2) (ret := none) (by decide) rfl ?_
  intro p e s m args below meth c s₁ B hml hv
  obtain ⟨rfl, hsz, hP, hK⟩ := hv
  subst hsz
  have C : Cx RX12 cX12_noLetters 2 none wsX12_noLetters p s m _ meth c := ⟨B.exec, B.bytes, hml, B.returns, findClass_of_methodNamed B.named, atoms_spec (ws := wsX12_noLetters) B.pre, B.notSynchronized⟩
  have hl := lv_entry ([.ref (ad 0)]) (n := 2) (Nat.le_of_ble_eq_true rfl)
  rw [lg_entry_eq]
  exact wX12_noLetters_0 C hK hJ h hP va_S.rf hl

/-- HissHornModel.goThrough([BIII)V of cell 0 -/
def rmX12_goThrough_0_a2 : Room := { frames := 134, cells := 0, slots := 0, locals := 8330 }
theorem hX12_goThrough_0_a2_X12 : ∀ w ∈ u_ws RX12 TX12 69, w ∈ wsX12_goThrough := fun w h => (List.mem_cons_of_mem _ (List.mem_append_right _ h))
theorem mX12_goThrough_0_a2_1 : Cond.fieldLink RX12 26 "HissHornModel" "text" "[B" ∈ wsX12_goThrough := (List.mem_cons_of_mem _ (List.mem_append_left _ (List.mem_append_left _ (List.mem_of_getElem? (i := 0) rfl))))
theorem mX12_goThrough_0_a2_2 : Cond.fieldLink RX12 179 "HissHornModel" "begins" "I" ∈ wsX12_goThrough := (List.mem_cons_of_mem _ (List.mem_append_left _ (List.mem_append_left _ (List.mem_of_getElem? (i := 1) rfl))))
theorem mX12_goThrough_0_a2_3 : Cond.fieldLink RX12 176 "HissHornModel" "ends" "I" ∈ wsX12_goThrough := (List.mem_cons_of_mem _ (List.mem_append_left _ (List.mem_append_left _ (List.mem_of_getElem? (i := 2) rfl))))
theorem mX12_goThrough_0_a2_4 : Cond.fieldLink RX12 31 "HissHornModel" "allowed" "Ljava/lang/String;" ∈ wsX12_goThrough := (List.mem_cons_of_mem _ (List.mem_append_left _ (List.mem_append_left _ (List.mem_of_getElem? (i := 3) rfl))))
theorem mX12_goThrough_0_a2_5 : Cond.fieldLink RX12 173 "HissHornModel" "at" "I" ∈ wsX12_goThrough := (List.mem_cons_of_mem _ (List.mem_append_left _ (List.mem_append_left _ (List.mem_of_getElem? (i := 4) rfl))))
theorem mX12_goThrough_0_a2_6 : Cond.fieldLink RX12 182 "HissHornModel" "fault" "I" ∈ wsX12_goThrough := (List.mem_cons_of_mem _ (List.mem_append_left _ (List.mem_append_left _ (List.mem_of_getElem? (i := 5) rfl))))
theorem mX12_goThrough_0_a2_7 : Cond.fieldLink RX12 185 "HissHornModel" "deep" "I" ∈ wsX12_goThrough := (List.mem_cons_of_mem _ (List.mem_append_left _ (List.mem_append_left _ (List.mem_of_getElem? (i := 6) rfl))))
theorem mX12_goThrough_0_a2_8 : Cond.fieldLink RX12 253 "HissHornModel" "hasFound" "Z" ∈ wsX12_goThrough := (List.mem_cons_of_mem _ (List.mem_append_left _ (List.mem_append_left _ (List.mem_of_getElem? (i := 7) rfl))))
theorem mX12_goThrough_0_a2_9 : Cond.fieldLink RX12 257 "HissHornModel" "found" "I" ∈ wsX12_goThrough := (List.mem_cons_of_mem _ (List.mem_append_left _ (List.mem_append_left _ (List.mem_of_getElem? (i := 8) rfl))))
def LX12_goThrough_0_a2_73 (k107 : SX → Option (Int32 × SX)) : Nat → SX → Option (Int32 × SX)
  | 0, _ => none
  | n + 1, u => (if (u.1 7) = (-1) then ((fX12_look_0  u).bind fun q => match q with | (r23, u24) => (if r23 = 59 then (lt (sI u24 6 ((u24.1 6) + 1)) fun u26 => ((fX12_clause_0  u26).bind fun q => match q with | (r28, u29) => ((LX12_goThrough_0_a2_73 k107 n) u29))) else (k107 u24))) else (k107 u))
def GX12_goThrough_0_a2_107  (u : SX) : Option (Int32 × SX) := (if (u.1 7) = (-1) then ((fX12_look_0  u).bind fun q => match q with | (r31, u32) => (if r31 = (-1) then (some (0, u32)) else ((fX12_fails_0  u32).bind fun q => match q with | (r34, u35) => (some (0, u35))))) else (some (0, u)))
def GX12_goThrough_0_a2_41  (u : SX) : Option (Int32 × SX) := (lt (sI u 10 7) fun u7 => (lt (sI u7 6 0) fun u9 => (lt (sI u9 7 (-1)) fun u11 => (lt (sI u11 8 0) fun u13 => (gd (isB 0) (lt (sI u13 11 0) fun u16 => (lt (sI u16 9 0) fun u18 => ((fX12_clause_0  u18).bind fun q => match q with | (r20, u21) => (LX12_goThrough_0_a2_73 GX12_goThrough_0_a2_107 5000 u21)))))))))
def GX12_goThrough_0_a2_41a  (u : SX) : Option (Int32 × SX) := (lt (sI u 10 6) fun u37 => (lt (sI u37 6 0) fun u39 => (lt (sI u39 7 (-1)) fun u41 => (lt (sI u41 8 0) fun u43 => (gd (isB 0) (lt (sI u43 11 0) fun u46 => (lt (sI u46 9 0) fun u48 => ((fX12_clause_0  u48).bind fun q => match q with | (r50, u51) => (LX12_goThrough_0_a2_73 GX12_goThrough_0_a2_107 5000 u51)))))))))
def GX12_goThrough_0_a2_41b  (u : SX) : Option (Int32 × SX) := (lt (sI u 10 5) fun u53 => (lt (sI u53 6 0) fun u55 => (lt (sI u55 7 (-1)) fun u57 => (lt (sI u57 8 0) fun u59 => (gd (isB 0) (lt (sI u59 11 0) fun u62 => (lt (sI u62 9 0) fun u64 => ((fX12_clause_0  u64).bind fun q => match q with | (r66, u67) => (LX12_goThrough_0_a2_73 GX12_goThrough_0_a2_107 5000 u67)))))))))
def fX12_goThrough_0_a2 (x2 : Int32) (x3 : Int32) (x4 : Int32) (u : SX) : Option (Int32 × SX) := (lt (sI u 2 3) fun u1 => (lt (sI u1 4 x2) fun u3 => (lt (sI u3 5 x3) fun u5 => (if x4 = 0 then (GX12_goThrough_0_a2_41b u5) else (if x4 = 1 then (GX12_goThrough_0_a2_41a u5) else (GX12_goThrough_0_a2_41 u5))))))
set_option maxHeartbeats 4000000 in
set_option maxRecDepth 100000 in
theorem wLX12_goThrough_0_a2_73 {p : Program} {l : Launch} {e : Env} {s : State} {m : MethodId} {args : Array Value} {below : List Frame} {meth : Method} {c : Code} {D : va_G} {cy : Nat → ClassId} {ad st : Nat → Nat} (C : Cx RX12 cX12_goThrough 5 none wsX12_goThrough p s m args meth c) (hK : Kx D [(cy 0, .int), (cy 1, .long), (cy 2, .boolean), (cy 3, .byte), (cy 4, .object "HissHorn$Text")] st s) (hJ : JM ad) {r : Int32} {u' : SX} {k107 : SX → Option (Int32 × SX)} (hk107 : ∀  (u : SX) (H : Heap) (locs : List Loc) (ls : Array Slot), k107 u = some (r, u') → va_P D vwCl (VM cy ad st u) H → va_S (Ax (AM ad) s.heap.size) s.heap H locs → lv_has ls 5 [(0, .ref (ad 0))] → W p l e rmX12_goThrough_0_a2 s m args below meth c H locs 0 0 (MQ below (Qv D (VM cy ad st) (AM ad) s.heap.size r u') args s 0 0 (Ax (AM ad) s.heap.size)) (F0 m 107 ls [])) : ∀ (n : Nat) (u : SX) (H : Heap) (locs : List Loc) (ls : Array Slot), LX12_goThrough_0_a2_73 k107 n u = some (r, u') → va_P D vwCl (VM cy ad st u) H → va_S (Ax (AM ad) s.heap.size) s.heap H locs → lv_has ls 5 [(0, .ref (ad 0))] → W p l e rmX12_goThrough_0_a2 s m args below meth c H locs 0 0 (MQ below (Qv D (VM cy ad st) (AM ad) s.heap.size r u') args s 0 0 (Ax (AM ad) s.heap.size)) (F0 m 73 ls []) := by
  intro n
  induction n with
  | zero =>
    intro u H locs ls h
    exact absurd h (by intro q; cases q)
  | succ n ih =>
    intro u H locs ls h hP hS hl
    rw [LX12_goThrough_0_a2_73] at h
    refine lv_aload_n C.1 C.2.1 dX12_goThrough_73 rfl (lv_at hl 0 rfl) ?_
    refine gM_0_fault C hX12_goThrough_0_a2_X12 hK hP mX12_goThrough_0_a2_6 dX12_goThrough_74 ?_
    refine lv_iconst (v := (-1)) C.1 C.2.1 dX12_goThrough_77 (by decide) ?_
    refine lv_icmp_ne (tgt := 107) C.1 C.2.1 dX12_goThrough_78 (by decide) (fun c78 => ?_) (fun c78 => ?_)
    · rw [if_neg c78] at h
      exact hk107 _ _ _ _ h hP hS hl
    · rw [if_pos c78] at h
      refine lv_aload_n C.1 C.2.1 dX12_goThrough_81 rfl (lv_at hl 0 rfl) ?_
      obtain ⟨⟨r23, u24⟩, hc25, h⟩ := bd_some h
      try dsimp only at h
      refine cg_i (As := []) (rest := []) C hK hP hS (metX12_look_0 l D cy ad st hJ _  hc25) (cwV 0 C.2.2.2.2.2.1 gX12_goThrough_X12_look rfl rfl rfl (by decide +kernel) ⟨(Nat.le_of_ble_eq_true rfl), (Nat.le_of_ble_eq_true rfl)⟩) 0 12 rfl rfl rfl hl.1 rfl (Nat.le_of_ble_eq_true rfl) dX12_goThrough_82 ⟨Nat.zero_le _, Nat.zero_le _⟩ (fun H locs hP hS => ?_)
      refine lv_bipush (v := 59) C.1 C.2.1 dX12_goThrough_85 (by decide) ?_
      refine lv_icmp_ne (tgt := 107) C.1 C.2.1 dX12_goThrough_87 (by decide) (fun c87 => ?_) (fun c87 => ?_)
      · rw [if_neg c87] at h
        exact hk107 _ _ _ _ h hP hS hl
      · rw [if_pos c87] at h
        refine lv_aload_n C.1 C.2.1 dX12_goThrough_90 rfl (lv_at hl 0 rfl) ?_
        refine lv_dup C.1 C.2.1 dX12_goThrough_91 rfl ?_
        refine gM_0_at C hX12_goThrough_0_a2_X12 hK hP mX12_goThrough_0_a2_5 dX12_goThrough_92 ?_
        refine lv_iconst (v := 1) C.1 C.2.1 dX12_goThrough_95 (by decide) ?_
        refine lv_iadd C.1 C.2.1 dX12_goThrough_96 ?_
        refine pM_0_at C hX12_goThrough_0_a2_X12 hK hP hJ hS mX12_goThrough_0_a2_5 dX12_goThrough_97 (fun H locs hP hS => ?_)
        obtain ⟨u26, hu27, h⟩ := lt_some h
        rw [← hu27] at hP
        refine lv_aload_n C.1 C.2.1 dX12_goThrough_100 rfl (lv_at hl 0 rfl) ?_
        obtain ⟨⟨r28, u29⟩, hc30, h⟩ := bd_some h
        try dsimp only at h
        refine cg_v (As := []) (rest := []) C hK hP hS (metX12_clause_0 l D cy ad st hJ _  hc30) (cwV 0 C.2.2.2.2.2.1 gX12_goThrough_X12_clause rfl rfl rfl (by decide +kernel) ⟨(Nat.le_of_ble_eq_true rfl), (Nat.le_of_ble_eq_true rfl)⟩) 0 12 rfl rfl rfl hl.1 rfl (Nat.le_of_ble_eq_true rfl) dX12_goThrough_101 ⟨Nat.zero_le _, Nat.zero_le _⟩ (fun H locs hP hS => ?_)
        refine lv_goto (tgt := 73) C.1 C.2.1 dX12_goThrough_104 (by decide) ?_
        exact ih _ _ _ _ h hP hS hl
set_option maxHeartbeats 4000000 in
set_option maxRecDepth 100000 in
theorem wGX12_goThrough_0_a2_107 {p : Program} {l : Launch} {e : Env} {s : State} {m : MethodId} {args : Array Value} {below : List Frame} {meth : Method} {c : Code} {D : va_G} {cy : Nat → ClassId} {ad st : Nat → Nat} (C : Cx RX12 cX12_goThrough 5 none wsX12_goThrough p s m args meth c) (hK : Kx D [(cy 0, .int), (cy 1, .long), (cy 2, .boolean), (cy 3, .byte), (cy 4, .object "HissHorn$Text")] st s) (hJ : JM ad) {r : Int32} {u' : SX}   (u : SX) (H : Heap) (locs : List Loc) (ls : Array Slot) (h : GX12_goThrough_0_a2_107  u = some (r, u')) (hP : va_P D vwCl (VM cy ad st u) H) (hS : va_S (Ax (AM ad) s.heap.size) s.heap H locs) (hl : lv_has ls 5 [(0, .ref (ad 0))]) : W p l e rmX12_goThrough_0_a2 s m args below meth c H locs 0 0 (MQ below (Qv D (VM cy ad st) (AM ad) s.heap.size r u') args s 0 0 (Ax (AM ad) s.heap.size)) (F0 m 107 ls []) := by
  unfold GX12_goThrough_0_a2_107 at h
  refine lv_aload_n C.1 C.2.1 dX12_goThrough_107 rfl (lv_at hl 0 rfl) ?_
  refine gM_0_fault C hX12_goThrough_0_a2_X12 hK hP mX12_goThrough_0_a2_6 dX12_goThrough_108 ?_
  refine lv_iconst (v := (-1)) C.1 C.2.1 dX12_goThrough_111 (by decide) ?_
  refine lv_icmp_ne (tgt := 128) C.1 C.2.1 dX12_goThrough_112 (by decide) (fun c112 => ?_) (fun c112 => ?_)
  · rw [if_neg c112] at h
    cases h
    exact rt_v C hP hS dX12_goThrough_128
  · rw [if_pos c112] at h
    refine lv_aload_n C.1 C.2.1 dX12_goThrough_115 rfl (lv_at hl 0 rfl) ?_
    obtain ⟨⟨r31, u32⟩, hc33, h⟩ := bd_some h
    try dsimp only at h
    refine cg_i (As := []) (rest := []) C hK hP hS (metX12_look_0 l D cy ad st hJ _  hc33) (cwV 0 C.2.2.2.2.2.1 gX12_goThrough_X12_look rfl rfl rfl (by decide +kernel) ⟨(Nat.le_of_ble_eq_true rfl), (Nat.le_of_ble_eq_true rfl)⟩) 0 12 rfl rfl rfl hl.1 rfl (Nat.le_of_ble_eq_true rfl) dX12_goThrough_116 ⟨Nat.zero_le _, Nat.zero_le _⟩ (fun H locs hP hS => ?_)
    refine lv_iconst (v := (-1)) C.1 C.2.1 dX12_goThrough_119 (by decide) ?_
    refine lv_icmp_eq (tgt := 128) C.1 C.2.1 dX12_goThrough_120 (by decide) (fun c120 => ?_) (fun c120 => ?_)
    · rw [if_pos c120] at h
      cases h
      exact rt_v C hP hS dX12_goThrough_128
    · rw [if_neg c120] at h
      refine lv_aload_n C.1 C.2.1 dX12_goThrough_123 rfl (lv_at hl 0 rfl) ?_
      obtain ⟨⟨r34, u35⟩, hc36, h⟩ := bd_some h
      try dsimp only at h
      refine cg_i (As := []) (rest := []) C hK hP hS (metX12_fails_0 l D cy ad st hJ _  hc36) (cwV 0 C.2.2.2.2.2.1 gX12_goThrough_X12_fails rfl rfl rfl (by decide +kernel) ⟨(Nat.le_of_ble_eq_true rfl), (Nat.le_of_ble_eq_true rfl)⟩) 0 12 rfl rfl rfl hl.1 rfl (Nat.le_of_ble_eq_true rfl) dX12_goThrough_124 ⟨Nat.zero_le _, Nat.zero_le _⟩ (fun H locs hP hS => ?_)
      refine lv_pop C.1 C.2.1 dX12_goThrough_127 rfl ?_
      cases h
      exact rt_v C hP hS dX12_goThrough_128
set_option maxHeartbeats 4000000 in
set_option maxRecDepth 100000 in
theorem wGX12_goThrough_0_a2_41 {p : Program} {l : Launch} {e : Env} {s : State} {m : MethodId} {args : Array Value} {below : List Frame} {meth : Method} {c : Code} {D : va_G} {cy : Nat → ClassId} {ad st : Nat → Nat} (C : Cx RX12 cX12_goThrough 5 none wsX12_goThrough p s m args meth c) (hK : Kx D [(cy 0, .int), (cy 1, .long), (cy 2, .boolean), (cy 3, .byte), (cy 4, .object "HissHorn$Text")] st s) (hJ : JM ad) {r : Int32} {u' : SX}   (u : SX) (H : Heap) (locs : List Loc) (ls : Array Slot) (h : GX12_goThrough_0_a2_41  u = some (r, u')) (hP : va_P D vwCl (VM cy ad st u) H) (hS : va_S (Ax (AM ad) s.heap.size) s.heap H locs) (hl : lv_has ls 5 [(0, .ref (ad 0))]) : W p l e rmX12_goThrough_0_a2 s m args below meth c H locs 0 0 (MQ below (Qv D (VM cy ad st) (AM ad) s.heap.size r u') args s 0 0 (Ax (AM ad) s.heap.size)) (F0 m 41 ls [.ref (st 6), .ref (ad 0)]) := by
  unfold GX12_goThrough_0_a2_41 at h
  refine pM_0_allowed_6 C hX12_goThrough_0_a2_X12 hK hP hJ hS mX12_goThrough_0_a2_4 dX12_goThrough_41 (fun H locs hP hS => ?_)
  obtain ⟨u7, hu8, h⟩ := lt_some h
  rw [← hu8] at hP
  refine lv_aload_n C.1 C.2.1 dX12_goThrough_44 rfl (lv_at hl 0 rfl) ?_
  refine lv_iconst (v := 0) C.1 C.2.1 dX12_goThrough_45 (by decide) ?_
  refine pM_0_at C hX12_goThrough_0_a2_X12 hK hP hJ hS mX12_goThrough_0_a2_5 dX12_goThrough_46 (fun H locs hP hS => ?_)
  obtain ⟨u9, hu10, h⟩ := lt_some h
  rw [← hu10] at hP
  refine lv_aload_n C.1 C.2.1 dX12_goThrough_49 rfl (lv_at hl 0 rfl) ?_
  refine lv_iconst (v := (-1)) C.1 C.2.1 dX12_goThrough_50 (by decide) ?_
  refine pM_0_fault C hX12_goThrough_0_a2_X12 hK hP hJ hS mX12_goThrough_0_a2_6 dX12_goThrough_51 (fun H locs hP hS => ?_)
  obtain ⟨u11, hu12, h⟩ := lt_some h
  rw [← hu12] at hP
  refine lv_aload_n C.1 C.2.1 dX12_goThrough_54 rfl (lv_at hl 0 rfl) ?_
  refine lv_iconst (v := 0) C.1 C.2.1 dX12_goThrough_55 (by decide) ?_
  refine pM_0_deep C hX12_goThrough_0_a2_X12 hK hP hJ hS mX12_goThrough_0_a2_7 dX12_goThrough_56 (fun H locs hP hS => ?_)
  obtain ⟨u13, hu14, h⟩ := lt_some h
  rw [← hu14] at hP
  refine lv_aload_n C.1 C.2.1 dX12_goThrough_59 rfl (lv_at hl 0 rfl) ?_
  refine lv_iconst (v := 0) C.1 C.2.1 dX12_goThrough_60 (by decide) ?_
  obtain ⟨hg15, h⟩ := gd_some h
  refine pM_0_hasFound hg15 C hX12_goThrough_0_a2_X12 hK hP hJ hS mX12_goThrough_0_a2_8 dX12_goThrough_61 (fun H locs hP hS => ?_)
  obtain ⟨u16, hu17, h⟩ := lt_some h
  rw [← hu17] at hP
  refine lv_aload_n C.1 C.2.1 dX12_goThrough_64 rfl (lv_at hl 0 rfl) ?_
  refine lv_iconst (v := 0) C.1 C.2.1 dX12_goThrough_65 (by decide) ?_
  refine pM_0_found C hX12_goThrough_0_a2_X12 hK hP hJ hS mX12_goThrough_0_a2_9 dX12_goThrough_66 (fun H locs hP hS => ?_)
  obtain ⟨u18, hu19, h⟩ := lt_some h
  rw [← hu19] at hP
  refine lv_aload_n C.1 C.2.1 dX12_goThrough_69 rfl (lv_at hl 0 rfl) ?_
  obtain ⟨⟨r20, u21⟩, hc22, h⟩ := bd_some h
  try dsimp only at h
  refine cg_v (As := []) (rest := []) C hK hP hS (metX12_clause_0 l D cy ad st hJ _  hc22) (cwV 0 C.2.2.2.2.2.1 gX12_goThrough_X12_clause rfl rfl rfl (by decide +kernel) ⟨(Nat.le_of_ble_eq_true rfl), (Nat.le_of_ble_eq_true rfl)⟩) 0 12 rfl rfl rfl hl.1 rfl (Nat.le_of_ble_eq_true rfl) dX12_goThrough_70 ⟨Nat.zero_le _, Nat.zero_le _⟩ (fun H locs hP hS => ?_)
  exact wLX12_goThrough_0_a2_73 C hK hJ (wGX12_goThrough_0_a2_107 C hK hJ ) 5000 _ _ _ _ h hP hS hl
set_option maxHeartbeats 4000000 in
set_option maxRecDepth 100000 in
theorem wGX12_goThrough_0_a2_41a {p : Program} {l : Launch} {e : Env} {s : State} {m : MethodId} {args : Array Value} {below : List Frame} {meth : Method} {c : Code} {D : va_G} {cy : Nat → ClassId} {ad st : Nat → Nat} (C : Cx RX12 cX12_goThrough 5 none wsX12_goThrough p s m args meth c) (hK : Kx D [(cy 0, .int), (cy 1, .long), (cy 2, .boolean), (cy 3, .byte), (cy 4, .object "HissHorn$Text")] st s) (hJ : JM ad) {r : Int32} {u' : SX}   (u : SX) (H : Heap) (locs : List Loc) (ls : Array Slot) (h : GX12_goThrough_0_a2_41a  u = some (r, u')) (hP : va_P D vwCl (VM cy ad st u) H) (hS : va_S (Ax (AM ad) s.heap.size) s.heap H locs) (hl : lv_has ls 5 [(0, .ref (ad 0))]) : W p l e rmX12_goThrough_0_a2 s m args below meth c H locs 0 0 (MQ below (Qv D (VM cy ad st) (AM ad) s.heap.size r u') args s 0 0 (Ax (AM ad) s.heap.size)) (F0 m 41 ls [.ref (st 5), .ref (ad 0)]) := by
  unfold GX12_goThrough_0_a2_41a at h
  refine pM_0_allowed_5 C hX12_goThrough_0_a2_X12 hK hP hJ hS mX12_goThrough_0_a2_4 dX12_goThrough_41 (fun H locs hP hS => ?_)
  obtain ⟨u37, hu38, h⟩ := lt_some h
  rw [← hu38] at hP
  refine lv_aload_n C.1 C.2.1 dX12_goThrough_44 rfl (lv_at hl 0 rfl) ?_
  refine lv_iconst (v := 0) C.1 C.2.1 dX12_goThrough_45 (by decide) ?_
  refine pM_0_at C hX12_goThrough_0_a2_X12 hK hP hJ hS mX12_goThrough_0_a2_5 dX12_goThrough_46 (fun H locs hP hS => ?_)
  obtain ⟨u39, hu40, h⟩ := lt_some h
  rw [← hu40] at hP
  refine lv_aload_n C.1 C.2.1 dX12_goThrough_49 rfl (lv_at hl 0 rfl) ?_
  refine lv_iconst (v := (-1)) C.1 C.2.1 dX12_goThrough_50 (by decide) ?_
  refine pM_0_fault C hX12_goThrough_0_a2_X12 hK hP hJ hS mX12_goThrough_0_a2_6 dX12_goThrough_51 (fun H locs hP hS => ?_)
  obtain ⟨u41, hu42, h⟩ := lt_some h
  rw [← hu42] at hP
  refine lv_aload_n C.1 C.2.1 dX12_goThrough_54 rfl (lv_at hl 0 rfl) ?_
  refine lv_iconst (v := 0) C.1 C.2.1 dX12_goThrough_55 (by decide) ?_
  refine pM_0_deep C hX12_goThrough_0_a2_X12 hK hP hJ hS mX12_goThrough_0_a2_7 dX12_goThrough_56 (fun H locs hP hS => ?_)
  obtain ⟨u43, hu44, h⟩ := lt_some h
  rw [← hu44] at hP
  refine lv_aload_n C.1 C.2.1 dX12_goThrough_59 rfl (lv_at hl 0 rfl) ?_
  refine lv_iconst (v := 0) C.1 C.2.1 dX12_goThrough_60 (by decide) ?_
  obtain ⟨hg45, h⟩ := gd_some h
  refine pM_0_hasFound hg45 C hX12_goThrough_0_a2_X12 hK hP hJ hS mX12_goThrough_0_a2_8 dX12_goThrough_61 (fun H locs hP hS => ?_)
  obtain ⟨u46, hu47, h⟩ := lt_some h
  rw [← hu47] at hP
  refine lv_aload_n C.1 C.2.1 dX12_goThrough_64 rfl (lv_at hl 0 rfl) ?_
  refine lv_iconst (v := 0) C.1 C.2.1 dX12_goThrough_65 (by decide) ?_
  refine pM_0_found C hX12_goThrough_0_a2_X12 hK hP hJ hS mX12_goThrough_0_a2_9 dX12_goThrough_66 (fun H locs hP hS => ?_)
  obtain ⟨u48, hu49, h⟩ := lt_some h
  rw [← hu49] at hP
  refine lv_aload_n C.1 C.2.1 dX12_goThrough_69 rfl (lv_at hl 0 rfl) ?_
  obtain ⟨⟨r50, u51⟩, hc52, h⟩ := bd_some h
  try dsimp only at h
  refine cg_v (As := []) (rest := []) C hK hP hS (metX12_clause_0 l D cy ad st hJ _  hc52) (cwV 0 C.2.2.2.2.2.1 gX12_goThrough_X12_clause rfl rfl rfl (by decide +kernel) ⟨(Nat.le_of_ble_eq_true rfl), (Nat.le_of_ble_eq_true rfl)⟩) 0 12 rfl rfl rfl hl.1 rfl (Nat.le_of_ble_eq_true rfl) dX12_goThrough_70 ⟨Nat.zero_le _, Nat.zero_le _⟩ (fun H locs hP hS => ?_)
  exact wLX12_goThrough_0_a2_73 C hK hJ (wGX12_goThrough_0_a2_107 C hK hJ ) 5000 _ _ _ _ h hP hS hl
set_option maxHeartbeats 4000000 in
set_option maxRecDepth 100000 in
theorem wGX12_goThrough_0_a2_41b {p : Program} {l : Launch} {e : Env} {s : State} {m : MethodId} {args : Array Value} {below : List Frame} {meth : Method} {c : Code} {D : va_G} {cy : Nat → ClassId} {ad st : Nat → Nat} (C : Cx RX12 cX12_goThrough 5 none wsX12_goThrough p s m args meth c) (hK : Kx D [(cy 0, .int), (cy 1, .long), (cy 2, .boolean), (cy 3, .byte), (cy 4, .object "HissHorn$Text")] st s) (hJ : JM ad) {r : Int32} {u' : SX}   (u : SX) (H : Heap) (locs : List Loc) (ls : Array Slot) (h : GX12_goThrough_0_a2_41b  u = some (r, u')) (hP : va_P D vwCl (VM cy ad st u) H) (hS : va_S (Ax (AM ad) s.heap.size) s.heap H locs) (hl : lv_has ls 5 [(0, .ref (ad 0))]) : W p l e rmX12_goThrough_0_a2 s m args below meth c H locs 0 0 (MQ below (Qv D (VM cy ad st) (AM ad) s.heap.size r u') args s 0 0 (Ax (AM ad) s.heap.size)) (F0 m 41 ls [.ref (st 4), .ref (ad 0)]) := by
  unfold GX12_goThrough_0_a2_41b at h
  refine pM_0_allowed_4 C hX12_goThrough_0_a2_X12 hK hP hJ hS mX12_goThrough_0_a2_4 dX12_goThrough_41 (fun H locs hP hS => ?_)
  obtain ⟨u53, hu54, h⟩ := lt_some h
  rw [← hu54] at hP
  refine lv_aload_n C.1 C.2.1 dX12_goThrough_44 rfl (lv_at hl 0 rfl) ?_
  refine lv_iconst (v := 0) C.1 C.2.1 dX12_goThrough_45 (by decide) ?_
  refine pM_0_at C hX12_goThrough_0_a2_X12 hK hP hJ hS mX12_goThrough_0_a2_5 dX12_goThrough_46 (fun H locs hP hS => ?_)
  obtain ⟨u55, hu56, h⟩ := lt_some h
  rw [← hu56] at hP
  refine lv_aload_n C.1 C.2.1 dX12_goThrough_49 rfl (lv_at hl 0 rfl) ?_
  refine lv_iconst (v := (-1)) C.1 C.2.1 dX12_goThrough_50 (by decide) ?_
  refine pM_0_fault C hX12_goThrough_0_a2_X12 hK hP hJ hS mX12_goThrough_0_a2_6 dX12_goThrough_51 (fun H locs hP hS => ?_)
  obtain ⟨u57, hu58, h⟩ := lt_some h
  rw [← hu58] at hP
  refine lv_aload_n C.1 C.2.1 dX12_goThrough_54 rfl (lv_at hl 0 rfl) ?_
  refine lv_iconst (v := 0) C.1 C.2.1 dX12_goThrough_55 (by decide) ?_
  refine pM_0_deep C hX12_goThrough_0_a2_X12 hK hP hJ hS mX12_goThrough_0_a2_7 dX12_goThrough_56 (fun H locs hP hS => ?_)
  obtain ⟨u59, hu60, h⟩ := lt_some h
  rw [← hu60] at hP
  refine lv_aload_n C.1 C.2.1 dX12_goThrough_59 rfl (lv_at hl 0 rfl) ?_
  refine lv_iconst (v := 0) C.1 C.2.1 dX12_goThrough_60 (by decide) ?_
  obtain ⟨hg61, h⟩ := gd_some h
  refine pM_0_hasFound hg61 C hX12_goThrough_0_a2_X12 hK hP hJ hS mX12_goThrough_0_a2_8 dX12_goThrough_61 (fun H locs hP hS => ?_)
  obtain ⟨u62, hu63, h⟩ := lt_some h
  rw [← hu63] at hP
  refine lv_aload_n C.1 C.2.1 dX12_goThrough_64 rfl (lv_at hl 0 rfl) ?_
  refine lv_iconst (v := 0) C.1 C.2.1 dX12_goThrough_65 (by decide) ?_
  refine pM_0_found C hX12_goThrough_0_a2_X12 hK hP hJ hS mX12_goThrough_0_a2_9 dX12_goThrough_66 (fun H locs hP hS => ?_)
  obtain ⟨u64, hu65, h⟩ := lt_some h
  rw [← hu65] at hP
  refine lv_aload_n C.1 C.2.1 dX12_goThrough_69 rfl (lv_at hl 0 rfl) ?_
  obtain ⟨⟨r66, u67⟩, hc68, h⟩ := bd_some h
  try dsimp only at h
  refine cg_v (As := []) (rest := []) C hK hP hS (metX12_clause_0 l D cy ad st hJ _  hc68) (cwV 0 C.2.2.2.2.2.1 gX12_goThrough_X12_clause rfl rfl rfl (by decide +kernel) ⟨(Nat.le_of_ble_eq_true rfl), (Nat.le_of_ble_eq_true rfl)⟩) 0 12 rfl rfl rfl hl.1 rfl (Nat.le_of_ble_eq_true rfl) dX12_goThrough_70 ⟨Nat.zero_le _, Nat.zero_le _⟩ (fun H locs hP hS => ?_)
  exact wLX12_goThrough_0_a2_73 C hK hJ (wGX12_goThrough_0_a2_107 C hK hJ ) 5000 _ _ _ _ h hP hS hl
set_option maxHeartbeats 4000000 in
set_option maxRecDepth 100000 in
theorem wX12_goThrough_0_a2 {p : Program} {l : Launch} {e : Env} {s : State} {m : MethodId} {args : Array Value} {below : List Frame} {meth : Method} {c : Code} {D : va_G} {cy : Nat → ClassId} {ad st : Nat → Nat} (C : Cx RX12 cX12_goThrough 5 none wsX12_goThrough p s m args meth c) (hK : Kx D [(cy 0, .int), (cy 1, .long), (cy 2, .boolean), (cy 3, .byte), (cy 4, .object "HissHorn$Text")] st s) (hJ : JM ad) (x2 : Int32) (x3 : Int32) (x4 : Int32) {u : SX} {r : Int32} {u' : SX} {H : Heap} {locs : List Loc} {ls : Array Slot} (h : fX12_goThrough_0_a2 x2 x3 x4 u = some (r, u')) (hP : va_P D vwCl (VM cy ad st u) H) (hS : va_S (Ax (AM ad) s.heap.size) s.heap H locs) (hl : lv_has ls 5 [(0, .ref (ad 0)), (1, .ref (ad 2)), (2, .int x2), (3, .int x3), (4, .int x4)]) : W p l e rmX12_goThrough_0_a2 s m args below meth c H locs 0 0 (MQ below (Qv D (VM cy ad st) (AM ad) s.heap.size r u') args s 0 0 (Ax (AM ad) s.heap.size)) (F0 m 0 ls []) := by
  unfold fX12_goThrough_0_a2 at h
  refine lv_aload_n C.1 C.2.1 dX12_goThrough_0 rfl (lv_at hl 0 rfl) ?_
  refine lv_aload_n C.1 C.2.1 dX12_goThrough_1 rfl (lv_at hl 1 rfl) ?_
  refine pM_0_text_2 C hX12_goThrough_0_a2_X12 hK hP hJ hS mX12_goThrough_0_a2_1 dX12_goThrough_2 (fun H locs hP hS => ?_)
  obtain ⟨u1, hu2, h⟩ := lt_some h
  rw [← hu2] at hP
  refine lv_aload_n C.1 C.2.1 dX12_goThrough_5 rfl (lv_at hl 0 rfl) ?_
  refine lv_iload_n C.1 C.2.1 dX12_goThrough_6 rfl (lv_at hl 2 rfl) ?_
  refine pM_0_begins C hX12_goThrough_0_a2_X12 hK hP hJ hS mX12_goThrough_0_a2_2 dX12_goThrough_7 (fun H locs hP hS => ?_)
  obtain ⟨u3, hu4, h⟩ := lt_some h
  rw [← hu4] at hP
  refine lv_aload_n C.1 C.2.1 dX12_goThrough_10 rfl (lv_at hl 0 rfl) ?_
  refine lv_iload_n C.1 C.2.1 dX12_goThrough_11 rfl (lv_at hl 3 rfl) ?_
  refine pM_0_ends C hX12_goThrough_0_a2_X12 hK hP hJ hS mX12_goThrough_0_a2_3 dX12_goThrough_12 (fun H locs hP hS => ?_)
  obtain ⟨u5, hu6, h⟩ := lt_some h
  rw [← hu6] at hP
  refine lv_aload_n C.1 C.2.1 dX12_goThrough_15 rfl (lv_at hl 0 rfl) ?_
  refine lv_iload C.1 C.2.1 dX12_goThrough_16 (lv_at hl 4 rfl) ?_
  refine lv_if_ne (tgt := 26) C.1 C.2.1 dX12_goThrough_18 (by decide) (fun c18 => ?_) (fun c18 => ?_)
  · rw [if_neg c18] at h
    refine lv_iload C.1 C.2.1 dX12_goThrough_26 (lv_at hl 4 rfl) ?_
    refine lv_iconst (v := 1) C.1 C.2.1 dX12_goThrough_28 (by decide) ?_
    refine lv_icmp_ne (tgt := 38) C.1 C.2.1 dX12_goThrough_29 (by decide) (fun c29 => ?_) (fun c29 => ?_)
    · rw [if_neg c29] at h
      refine xx_ldcwS C.1 C.2.1 C.2.2.2.2.1 (hK.2.2 (RX12, 262, "ngbkt", 6) (by decide +kernel)) dX12_goThrough_38 ?_
      exact wGX12_goThrough_0_a2_41 C hK hJ _ _ _ _ h hP hS (lv_sub hl [0] rfl)
    · rw [if_pos c29] at h
      refine xx_ldcwS C.1 C.2.1 C.2.2.2.2.1 (hK.2.2 (RX12, 260, "la", 5) (by decide +kernel)) dX12_goThrough_32 ?_
      refine lv_goto (tgt := 41) C.1 C.2.1 dX12_goThrough_35 (by decide) ?_
      exact wGX12_goThrough_0_a2_41a C hK hJ _ _ _ _ h hP hS (lv_sub hl [0] rfl)
  · rw [if_pos c18] at h
    refine va_ldcS C.1 C.2.1 C.2.2.2.2.1 (hK.2.2 (RX12, 29, "dahewl", 4) (by decide +kernel)) dX12_goThrough_21 ?_
    refine lv_goto (tgt := 41) C.1 C.2.1 dX12_goThrough_23 (by decide) ?_
    exact wGX12_goThrough_0_a2_41b C hK hJ _ _ _ _ h hP hS (lv_sub hl [0] rfl)
theorem metX12_goThrough_0_a2 (l : Launch) (D : va_G) (cy : Nat → ClassId) (ad st : Nat → Nat) (hJ : JM ad) (sz : Nat) (x2 : Int32) (x3 : Int32) (x4 : Int32) {u : SX} {r : Int32} {u' : SX} (h : fX12_goThrough_0_a2 x2 x3 x4 u = some (r, u')) : Met l yX12_goThrough wsX12_goThrough rmX12_goThrough_0_a2 (va_Pc [.ref (ad 0), .ref (ad 2), .int x2, .int x3, .int x4] (Px D [(cy 0, .int), (cy 1, .long), (cy 2, .boolean), (cy 3, .byte), (cy 4, .object "HissHorn$Text")] st (VM cy ad st) sz u)) (Qv D (VM cy ad st) (AM ad) sz r u') 0 0 (Ax (AM ad) sz) := by
  refine Met.ofW (cc := cX12_goThrough) (maxL := 5) (ret := none) (by decide) rfl ?_
  intro p e s m args below meth c s₁ B hml hv
  obtain ⟨rfl, hsz, hP, hK⟩ := hv
  subst hsz
  have C : Cx RX12 cX12_goThrough 5 none wsX12_goThrough p s m _ meth c := ⟨B.exec, B.bytes, hml, B.returns, findClass_of_methodNamed B.named, atoms_spec (ws := wsX12_goThrough) B.pre, B.notSynchronized⟩
  have hl := lv_entry ([.ref (ad 0), .ref (ad 2), .int x2, .int x3, .int x4]) (n := 5) (Nat.le_of_ble_eq_true rfl)
  rw [lg_entry_eq]
  exact wX12_goThrough_0_a2 C hK hJ x2 x3 x4 h hP va_S.rf hl

theorem dX12_worthOf_0 : decode cX12_worthOf 0 = .ok (.bipush 12, 2) := by decide +kernel
theorem dX12_worthOf_2 : decode cX12_worthOf 2 = .ok (.iload_n 1, 1) := by decide +kernel
theorem dX12_worthOf_3 : decode cX12_worthOf 3 = .ok (.imul, 1) := by decide +kernel
theorem dX12_worthOf_4 : decode cX12_worthOf 4 = .ok (.iload_n 2, 1) := by decide +kernel
theorem dX12_worthOf_5 : decode cX12_worthOf 5 = .ok (.iadd, 1) := by decide +kernel
theorem dX12_worthOf_6 : decode cX12_worthOf 6 = .ok (.istore_n 3, 1) := by decide +kernel
theorem dX12_worthOf_7 : decode cX12_worthOf 7 = .ok (.aload_n 0, 1) := by decide +kernel
theorem dX12_worthOf_8 : decode cX12_worthOf 8 = .ok (.aload_n 0, 1) := by decide +kernel
theorem dX12_worthOf_9 : decode cX12_worthOf 9 = .ok (.getfield 13, 3) := by decide +kernel
theorem dX12_worthOf_12 : decode cX12_worthOf 12 = .ok (.bipush 120, 2) := by decide +kernel
theorem dX12_worthOf_14 : decode cX12_worthOf 14 = .ok (.iload_n 3, 1) := by decide +kernel
theorem dX12_worthOf_15 : decode cX12_worthOf 15 = .ok (.imul, 1) := by decide +kernel
theorem dX12_worthOf_16 : decode cX12_worthOf 16 = .ok (.aload_n 0, 1) := by decide +kernel
theorem dX12_worthOf_17 : decode cX12_worthOf 17 = .ok (.getfield 16, 3) := by decide +kernel
theorem dX12_worthOf_20 : decode cX12_worthOf 20 = .ok (.iload_n 3, 1) := by decide +kernel
theorem dX12_worthOf_21 : decode cX12_worthOf 21 = .ok (.iaload, 1) := by decide +kernel
theorem dX12_worthOf_22 : decode cX12_worthOf 22 = .ok (.iload_n 1, 1) := by decide +kernel
set_option maxRecDepth 20000 in
theorem ggX12_worthOf_X12_goThrough : GoodIn wsX12_worthOf wsX12_goThrough := goodIn_r _ [8, 9, 10, 11, 12, 13, 14, 15, 16, 3, 17, 18, 19, 7, 20, 21, 22, 23, 24, 25, 26, 27, 28, 29, 30, 31, 32, 33, 34, 35, 36, 37, 38, 39, 40, 41, 42, 43, 44, 45, 46, 47, 48, 49, 50, 51, 52, 53, 54, 55, 56, 57, 58, 59, 60, 61, 62, 63, 64, 65, 66, 67, 68, 69, 70, 71, 72, 73, 74, 75, 76, 77, 78, 79, 80, 81, 82, 83, 84, 85, 86, 87, 88, 89, 90, 91, 92, 93, 94, 95, 96, 97, 98, 99, 100, 101, 102, 103, 104, 105, 106, 107, 108, 109, 110, 111, 112, 113, 114, 115, 116, 117, 118, 119, 120, 121, 122, 123, 124, 125, 126, 127, 128, 129, 130, 131, 132, 133, 134, 135, 136, 137, 138, 139, 140, 141, 142, 143, 144, 145, 146, 147, 148, 149, 150, 151, 152, 153, 154, 155, 156, 157, 158, 159, 160, 161, 162, 163, 164, 165, 166, 167, 168, 169, 170, 171, 172, 173, 174, 175, 176, 177, 178, 179, 180, 181, 182, 183, 184, 185, 186, 187, 188, 189, 190, 191, 192, 193, 194, 195, 196, 197, 198, 199, 200, 201, 202, 203, 204, 205, 206, 207, 208, 209, 210, 211, 212, 213, 214, 215, 216, 217, 218, 219, 220, 221, 222, 223, 224, 225, 226, 227, 228, 229, 230, 231, 232, 233, 234, 235, 236, 237, 238, 239, 240, 241] (by decide +kernel) (by decide +kernel)
set_option maxRecDepth 20000 in
theorem gX12_worthOf_X12_goThrough : GoodIn wsX12_worthOf (wsV RX12 267 RX12 yX12_goThrough wsX12_goThrough) := goodIn_app (goodIn_of _ (by decide +kernel)) ggX12_worthOf_X12_goThrough
theorem dX12_worthOf_23 : decode cX12_worthOf 23 = .ok (.invokevirtual 267, 3) := by decide +kernel
theorem dX12_worthOf_26 : decode cX12_worthOf 26 = .ok (.aload_n 0, 1) := by decide +kernel
theorem dX12_worthOf_27 : decode cX12_worthOf 27 = .ok (.getfield 257, 3) := by decide +kernel
theorem dX12_worthOf_30 : decode cX12_worthOf 30 = .ok (.ireturn, 1) := by decide +kernel
/-- HissHornModel.worthOf(II)I of cell 0 -/
def rmX12_worthOf_0 : Room := { frames := 135, cells := 0, slots := 0, locals := 8354 }
theorem hX12_worthOf_0_X12 : ∀ w ∈ u_ws RX12 TX12 69, w ∈ wsX12_worthOf := fun w h => (List.mem_cons_of_mem _ (List.mem_append_right _ h))
theorem mX12_worthOf_0_1 : Cond.fieldLink RX12 13 "HissHornModel" "texts" "[B" ∈ wsX12_worthOf := (List.mem_cons_of_mem _ (List.mem_append_left _ (List.mem_append_left _ (List.mem_of_getElem? (i := 0) rfl))))
theorem mX12_worthOf_0_2 : Cond.fieldLink RX12 16 "HissHornModel" "textLong" "[I" ∈ wsX12_worthOf := (List.mem_cons_of_mem _ (List.mem_append_left _ (List.mem_append_left _ (List.mem_of_getElem? (i := 1) rfl))))
theorem mX12_worthOf_0_3 : Cond.fieldLink RX12 257 "HissHornModel" "found" "I" ∈ wsX12_worthOf := (List.mem_cons_of_mem _ (List.mem_append_left _ (List.mem_append_left _ (List.mem_of_getElem? (i := 2) rfl))))
def fX12_worthOf_0 (x1 : Int32) (x2 : Int32) (u : SX) : Option (Int32 × SX) := (lt ((12 * x1) + x2) fun v1 => (gd (inb v1 36) ((fX12_goThrough_0_a2 (120 * v1) (u.2.1 3 v1.toNatClampNeg) x1 u).bind fun q => match q with | (r4, u5) => (some (u5.1 9, u5)))))
set_option maxHeartbeats 4000000 in
set_option maxRecDepth 100000 in
theorem wX12_worthOf_0 {p : Program} {l : Launch} {e : Env} {s : State} {m : MethodId} {args : Array Value} {below : List Frame} {meth : Method} {c : Code} {D : va_G} {cy : Nat → ClassId} {ad st : Nat → Nat} (C : Cx RX12 cX12_worthOf 4 (some .int) wsX12_worthOf p s m args meth c) (hK : Kx D [(cy 0, .int), (cy 1, .long), (cy 2, .boolean), (cy 3, .byte), (cy 4, .object "HissHorn$Text")] st s) (hJ : JM ad) (x1 : Int32) (x2 : Int32) {u : SX} {r : Int32} {u' : SX} {H : Heap} {locs : List Loc} {ls : Array Slot} (h : fX12_worthOf_0 x1 x2 u = some (r, u')) (hP : va_P D vwCl (VM cy ad st u) H) (hS : va_S (Ax (AM ad) s.heap.size) s.heap H locs) (hl : lv_has ls 4 [(0, .ref (ad 0)), (1, .int x1), (2, .int x2)]) : W p l e rmX12_worthOf_0 s m args below meth c H locs 0 0 (MQ below (Qi D (VM cy ad st) (AM ad) s.heap.size r u') args s 0 0 (Ax (AM ad) s.heap.size)) (F0 m 0 ls []) := by
  unfold fX12_worthOf_0 at h
  refine lv_bipush (v := 12) C.1 C.2.1 dX12_worthOf_0 (by decide) ?_
  refine lv_iload_n C.1 C.2.1 dX12_worthOf_2 rfl (lv_at hl 1 rfl) ?_
  refine lv_imul C.1 C.2.1 dX12_worthOf_3 ?_
  refine lv_iload_n C.1 C.2.1 dX12_worthOf_4 rfl (lv_at hl 2 rfl) ?_
  refine lv_iadd C.1 C.2.1 dX12_worthOf_5 ?_
  refine lv_topi (fun v1 hv2 => ?_)
  replace h := lt_e hv2 h
  try dsimp only at h
  refine lv_istore_n (lv' := [(3, .int v1), (0, .ref (ad 0)), (1, .int x1), (2, .int x2)]) C.1 C.2.1 dX12_worthOf_6 rfl hl (by decide) rfl (fun ls hl => ?_)
  replace hl := lv_sub (l' := [(0, .ref (ad 0)), (1, .int x1), (2, .int x2), (3, .int v1)]) hl [1, 2, 3, 0] rfl
  refine lv_aload_n C.1 C.2.1 dX12_worthOf_7 rfl (lv_at hl 0 rfl) ?_
  refine lv_aload_n C.1 C.2.1 dX12_worthOf_8 rfl (lv_at hl 0 rfl) ?_
  refine gM_0_texts C hX12_worthOf_0_X12 hK hP mX12_worthOf_0_1 dX12_worthOf_9 ?_
  refine lv_bipush (v := 120) C.1 C.2.1 dX12_worthOf_12 (by decide) ?_
  refine lv_iload_n C.1 C.2.1 dX12_worthOf_14 rfl (lv_at hl 3 rfl) ?_
  refine lv_imul C.1 C.2.1 dX12_worthOf_15 ?_
  refine lv_aload_n C.1 C.2.1 dX12_worthOf_16 rfl (lv_at hl 0 rfl) ?_
  refine gM_0_textLong C hX12_worthOf_0_X12 hK hP mX12_worthOf_0_2 dX12_worthOf_17 ?_
  refine lv_iload_n C.1 C.2.1 dX12_worthOf_20 rfl (lv_at hl 3 rfl) ?_
  obtain ⟨hg3, h⟩ := gd_some h
  refine lM_3 C hK hP hg3 dX12_worthOf_21 ?_
  refine lv_iload_n C.1 C.2.1 dX12_worthOf_22 rfl (lv_at hl 1 rfl) ?_
  obtain ⟨⟨r4, u5⟩, hc6, h⟩ := bd_some h
  try dsimp only at h
  refine cg_v (As := [.ref (ad 2), .int (120 * v1), .int (u.2.1 3 v1.toNatClampNeg), .int x1]) (rest := []) C hK hP hS (metX12_goThrough_0_a2 l D cy ad st hJ _ (120 * v1) (u.2.1 3 v1.toNatClampNeg) x1 hc6) (cwV 4 C.2.2.2.2.2.1 gX12_worthOf_X12_goThrough rfl rfl rfl (by decide +kernel) ⟨(Nat.le_of_ble_eq_true rfl), (Nat.le_of_ble_eq_true rfl)⟩) 0 12 rfl rfl rfl hl.1 rfl (Nat.le_of_ble_eq_true rfl) dX12_worthOf_23 ⟨Nat.zero_le _, Nat.zero_le _⟩ (fun H locs hP hS => ?_)
  refine lv_aload_n C.1 C.2.1 dX12_worthOf_26 rfl (lv_at hl 0 rfl) ?_
  refine gM_0_found C hX12_worthOf_0_X12 hK hP mX12_worthOf_0_3 dX12_worthOf_27 ?_
  cases h
  exact rt_i C hP hS dX12_worthOf_30
theorem metX12_worthOf_0 (l : Launch) (D : va_G) (cy : Nat → ClassId) (ad st : Nat → Nat) (hJ : JM ad) (sz : Nat) (x1 : Int32) (x2 : Int32) {u : SX} {r : Int32} {u' : SX} (h : fX12_worthOf_0 x1 x2 u = some (r, u')) : Met l yX12_worthOf wsX12_worthOf rmX12_worthOf_0 (va_Pc [.ref (ad 0), .int x1, .int x2] (Px D [(cy 0, .int), (cy 1, .long), (cy 2, .boolean), (cy 3, .byte), (cy 4, .object "HissHorn$Text")] st (VM cy ad st) sz u)) (Qi D (VM cy ad st) (AM ad) sz r u') 0 0 (Ax (AM ad) sz) := by
  refine Met.ofW (cc := cX12_worthOf) (maxL := 4) (ret := (some .int)) (by decide) rfl ?_
  intro p e s m args below meth c s₁ B hml hv
  obtain ⟨rfl, hsz, hP, hK⟩ := hv
  subst hsz
  have C : Cx RX12 cX12_worthOf 4 (some .int) wsX12_worthOf p s m _ meth c := ⟨B.exec, B.bytes, hml, B.returns, findClass_of_methodNamed B.named, atoms_spec (ws := wsX12_worthOf) B.pre, B.notSynchronized⟩
  have hl := lv_entry ([.ref (ad 0), .int x1, .int x2]) (n := 4) (Nat.le_of_ble_eq_true rfl)
  rw [lg_entry_eq]
  exact wX12_worthOf_0 C hK hJ x1 x2 h hP va_S.rf hl

theorem dX12_isAim_0 : decode cX12_isAim 0 = .ok (.iload_n 0, 1) := by decide +kernel
theorem dX12_isAim_1 : decode cX12_isAim 1 = .ok (.iconst 0, 1) := by decide +kernel
theorem dX12_isAim_2 : decode cX12_isAim 2 = .ok (.bipush 15, 2) := by decide +kernel
set_option maxRecDepth 20000 in
theorem ggX12_isAim_X12_isIn : GoodIn wsX12_isAim wsX12_isIn := goodIn_r _ [4] (by decide +kernel) (by decide +kernel)
set_option maxRecDepth 20000 in
theorem gX12_isAim_X12_isIn : GoodIn wsX12_isAim (va_wsS RX12 155 yX12_isIn wsX12_isIn) := goodIn_app (goodIn_of _ (by decide +kernel)) ggX12_isAim_X12_isIn
theorem dX12_isAim_4 : decode cX12_isAim 4 = .ok (.invokestatic 155, 3) := by decide +kernel
theorem dX12_isAim_7 : decode cX12_isAim 7 = .ok (.ifCond .eq 48, 3) := by decide +kernel
theorem dX12_isAim_55 : decode cX12_isAim 55 = .ok (.iconst 0, 1) := by decide +kernel
theorem dX12_isAim_56 : decode cX12_isAim 56 = .ok (.ireturn, 1) := by decide +kernel
theorem dX12_isAim_10 : decode cX12_isAim 10 = .ok (.iload_n 1, 1) := by decide +kernel
theorem dX12_isAim_11 : decode cX12_isAim 11 = .ok (.iconst 0, 1) := by decide +kernel
theorem dX12_isAim_12 : decode cX12_isAim 12 = .ok (.bipush 9, 2) := by decide +kernel
theorem dX12_isAim_14 : decode cX12_isAim 14 = .ok (.invokestatic 155, 3) := by decide +kernel
theorem dX12_isAim_17 : decode cX12_isAim 17 = .ok (.ifCond .eq 38, 3) := by decide +kernel
theorem dX12_isAim_20 : decode cX12_isAim 20 = .ok (.iload_n 2, 1) := by decide +kernel
theorem dX12_isAim_21 : decode cX12_isAim 21 = .ok (.iconst 0, 1) := by decide +kernel
theorem dX12_isAim_22 : decode cX12_isAim 22 = .ok (.bipush 23, 2) := by decide +kernel
theorem dX12_isAim_24 : decode cX12_isAim 24 = .ok (.invokestatic 155, 3) := by decide +kernel
theorem dX12_isAim_27 : decode cX12_isAim 27 = .ok (.ifCond .eq 28, 3) := by decide +kernel
theorem dX12_isAim_30 : decode cX12_isAim 30 = .ok (.iload_n 3, 1) := by decide +kernel
theorem dX12_isAim_31 : decode cX12_isAim 31 = .ok (.iconst 0, 1) := by decide +kernel
theorem dX12_isAim_32 : decode cX12_isAim 32 = .ok (.bipush 9, 2) := by decide +kernel
theorem dX12_isAim_34 : decode cX12_isAim 34 = .ok (.invokestatic 155, 3) := by decide +kernel
theorem dX12_isAim_37 : decode cX12_isAim 37 = .ok (.ifCond .eq 18, 3) := by decide +kernel
theorem dX12_isAim_40 : decode cX12_isAim 40 = .ok (.iload 4, 2) := by decide +kernel
theorem dX12_isAim_42 : decode cX12_isAim 42 = .ok (.iconst 1, 1) := by decide +kernel
theorem dX12_isAim_43 : decode cX12_isAim 43 = .ok (.bipush 40, 2) := by decide +kernel
theorem dX12_isAim_45 : decode cX12_isAim 45 = .ok (.invokestatic 155, 3) := by decide +kernel
theorem dX12_isAim_48 : decode cX12_isAim 48 = .ok (.ifCond .eq 7, 3) := by decide +kernel
theorem dX12_isAim_51 : decode cX12_isAim 51 = .ok (.iconst 1, 1) := by decide +kernel
theorem dX12_isAim_52 : decode cX12_isAim 52 = .ok (.goto 4, 3) := by decide +kernel
/-- HissHornModel.isAim(IIIII)Z -/
def rmX12_isAim : Room := { frames := 1, cells := 0, slots := 0, locals := 22 }
def fX12_isAim (x0 : Int32) (x1 : Int32) (x2 : Int32) (x3 : Int32) (x4 : Int32) : Option Int32 := ((fX12_isIn x0 0 15).bind fun r1 => (if r1 = 0 then (gd (isB 0) (some 0)) else ((fX12_isIn x1 0 9).bind fun r5 => (if r5 = 0 then (gd (isB 0) (some 0)) else ((fX12_isIn x2 0 23).bind fun r9 => (if r9 = 0 then (gd (isB 0) (some 0)) else ((fX12_isIn x3 0 9).bind fun r13 => (if r13 = 0 then (gd (isB 0) (some 0)) else ((fX12_isIn x4 1 40).bind fun r17 => (if r17 = 0 then (gd (isB 0) (some 0)) else (gd (isB 1) (some 1))))))))))))
set_option maxHeartbeats 4000000 in
set_option maxRecDepth 100000 in
theorem wX12_isAim {p : Program} {l : Launch} {e : Env} {s : State} {m : MethodId} {args : Array Value} {below : List Frame} {meth : Method} {c : Code} {D : va_G} {cy : Nat → ClassId} {st : Nat → Nat} (C : Cx RX12 cX12_isAim 5 (some .boolean) wsX12_isAim p s m args meth c) (hK : Kx D [(cy 0, .int), (cy 1, .long), (cy 2, .boolean), (cy 3, .byte), (cy 4, .object "HissHorn$Text")] st s) (x0 : Int32) (x1 : Int32) (x2 : Int32) (x3 : Int32) (x4 : Int32) {r : Int32} {H : Heap} {locs : List Loc} {ls : Array Slot} (h : fX12_isAim x0 x1 x2 x3 x4 = some r) (hP : va_P D vwCl (V0 u00) H) (hS : va_S (Ax (A0) s.heap.size) s.heap H locs) (hl : lv_has ls 5 [(0, .int x0), (1, .int x1), (2, .int x2), (3, .int x3), (4, .int x4)]) : W p l e rmX12_isAim s m args below meth c H locs 0 0 (MQ below (Qi D (V0) (A0) s.heap.size r u00) args s 0 0 (Ax (A0) s.heap.size)) (F0 m 0 ls []) := by
  unfold fX12_isAim at h
  refine lv_iload_n C.1 C.2.1 dX12_isAim_0 rfl (lv_at hl 0 rfl) ?_
  refine lv_iconst (v := 0) C.1 C.2.1 dX12_isAim_1 (by decide) ?_
  refine lv_bipush (v := 15) C.1 C.2.1 dX12_isAim_2 (by decide) ?_
  obtain ⟨r1, hc3, h⟩ := bd_some h
  refine cs_i (As := [.int x0, .int 0, .int 15]) (rest := []) C hK hP hS (metX12_isIn l D cy st _ x0 0 15 hc3) (va_cwS 3 C.2.2.2.2.2.1 gX12_isAim_X12_isIn rfl rfl rfl (by decide +kernel) ⟨(Nat.le_of_ble_eq_true rfl), (Nat.le_of_ble_eq_true rfl)⟩) rfl hl.1 rfl (Nat.le_of_ble_eq_true rfl) dX12_isAim_4 ⟨Nat.zero_le _, Nat.zero_le _⟩ (fun H locs hP hS => ?_)
  refine lv_if_eq (tgt := 55) C.1 C.2.1 dX12_isAim_7 (by decide) (fun c7 => ?_) (fun c7 => ?_)
  · rw [if_pos c7] at h
    refine lv_iconst (v := 0) C.1 C.2.1 dX12_isAim_55 (by decide) ?_
    obtain ⟨hg4, h⟩ := gd_some h
    cases h
    exact rt_z hg4 C hP hS dX12_isAim_56
  · rw [if_neg c7] at h
    refine lv_iload_n C.1 C.2.1 dX12_isAim_10 rfl (lv_at hl 1 rfl) ?_
    refine lv_iconst (v := 0) C.1 C.2.1 dX12_isAim_11 (by decide) ?_
    refine lv_bipush (v := 9) C.1 C.2.1 dX12_isAim_12 (by decide) ?_
    obtain ⟨r5, hc7, h⟩ := bd_some h
    refine cs_i (As := [.int x1, .int 0, .int 9]) (rest := []) C hK hP hS (metX12_isIn l D cy st _ x1 0 9 hc7) (va_cwS 3 C.2.2.2.2.2.1 gX12_isAim_X12_isIn rfl rfl rfl (by decide +kernel) ⟨(Nat.le_of_ble_eq_true rfl), (Nat.le_of_ble_eq_true rfl)⟩) rfl hl.1 rfl (Nat.le_of_ble_eq_true rfl) dX12_isAim_14 ⟨Nat.zero_le _, Nat.zero_le _⟩ (fun H locs hP hS => ?_)
    refine lv_if_eq (tgt := 55) C.1 C.2.1 dX12_isAim_17 (by decide) (fun c17 => ?_) (fun c17 => ?_)
    · rw [if_pos c17] at h
      refine lv_iconst (v := 0) C.1 C.2.1 dX12_isAim_55 (by decide) ?_
      obtain ⟨hg8, h⟩ := gd_some h
      cases h
      exact rt_z hg8 C hP hS dX12_isAim_56
    · rw [if_neg c17] at h
      refine lv_iload_n C.1 C.2.1 dX12_isAim_20 rfl (lv_at hl 2 rfl) ?_
      refine lv_iconst (v := 0) C.1 C.2.1 dX12_isAim_21 (by decide) ?_
      refine lv_bipush (v := 23) C.1 C.2.1 dX12_isAim_22 (by decide) ?_
      obtain ⟨r9, hc11, h⟩ := bd_some h
      refine cs_i (As := [.int x2, .int 0, .int 23]) (rest := []) C hK hP hS (metX12_isIn l D cy st _ x2 0 23 hc11) (va_cwS 3 C.2.2.2.2.2.1 gX12_isAim_X12_isIn rfl rfl rfl (by decide +kernel) ⟨(Nat.le_of_ble_eq_true rfl), (Nat.le_of_ble_eq_true rfl)⟩) rfl hl.1 rfl (Nat.le_of_ble_eq_true rfl) dX12_isAim_24 ⟨Nat.zero_le _, Nat.zero_le _⟩ (fun H locs hP hS => ?_)
      refine lv_if_eq (tgt := 55) C.1 C.2.1 dX12_isAim_27 (by decide) (fun c27 => ?_) (fun c27 => ?_)
      · rw [if_pos c27] at h
        refine lv_iconst (v := 0) C.1 C.2.1 dX12_isAim_55 (by decide) ?_
        obtain ⟨hg12, h⟩ := gd_some h
        cases h
        exact rt_z hg12 C hP hS dX12_isAim_56
      · rw [if_neg c27] at h
        refine lv_iload_n C.1 C.2.1 dX12_isAim_30 rfl (lv_at hl 3 rfl) ?_
        refine lv_iconst (v := 0) C.1 C.2.1 dX12_isAim_31 (by decide) ?_
        refine lv_bipush (v := 9) C.1 C.2.1 dX12_isAim_32 (by decide) ?_
        obtain ⟨r13, hc15, h⟩ := bd_some h
        refine cs_i (As := [.int x3, .int 0, .int 9]) (rest := []) C hK hP hS (metX12_isIn l D cy st _ x3 0 9 hc15) (va_cwS 3 C.2.2.2.2.2.1 gX12_isAim_X12_isIn rfl rfl rfl (by decide +kernel) ⟨(Nat.le_of_ble_eq_true rfl), (Nat.le_of_ble_eq_true rfl)⟩) rfl hl.1 rfl (Nat.le_of_ble_eq_true rfl) dX12_isAim_34 ⟨Nat.zero_le _, Nat.zero_le _⟩ (fun H locs hP hS => ?_)
        refine lv_if_eq (tgt := 55) C.1 C.2.1 dX12_isAim_37 (by decide) (fun c37 => ?_) (fun c37 => ?_)
        · rw [if_pos c37] at h
          refine lv_iconst (v := 0) C.1 C.2.1 dX12_isAim_55 (by decide) ?_
          obtain ⟨hg16, h⟩ := gd_some h
          cases h
          exact rt_z hg16 C hP hS dX12_isAim_56
        · rw [if_neg c37] at h
          refine lv_iload C.1 C.2.1 dX12_isAim_40 (lv_at hl 4 rfl) ?_
          refine lv_iconst (v := 1) C.1 C.2.1 dX12_isAim_42 (by decide) ?_
          refine lv_bipush (v := 40) C.1 C.2.1 dX12_isAim_43 (by decide) ?_
          obtain ⟨r17, hc19, h⟩ := bd_some h
          refine cs_i (As := [.int x4, .int 1, .int 40]) (rest := []) C hK hP hS (metX12_isIn l D cy st _ x4 1 40 hc19) (va_cwS 3 C.2.2.2.2.2.1 gX12_isAim_X12_isIn rfl rfl rfl (by decide +kernel) ⟨(Nat.le_of_ble_eq_true rfl), (Nat.le_of_ble_eq_true rfl)⟩) rfl hl.1 rfl (Nat.le_of_ble_eq_true rfl) dX12_isAim_45 ⟨Nat.zero_le _, Nat.zero_le _⟩ (fun H locs hP hS => ?_)
          refine lv_if_eq (tgt := 55) C.1 C.2.1 dX12_isAim_48 (by decide) (fun c48 => ?_) (fun c48 => ?_)
          · rw [if_pos c48] at h
            refine lv_iconst (v := 0) C.1 C.2.1 dX12_isAim_55 (by decide) ?_
            obtain ⟨hg20, h⟩ := gd_some h
            cases h
            exact rt_z hg20 C hP hS dX12_isAim_56
          · rw [if_neg c48] at h
            refine lv_iconst (v := 1) C.1 C.2.1 dX12_isAim_51 (by decide) ?_
            refine lv_goto (tgt := 56) C.1 C.2.1 dX12_isAim_52 (by decide) ?_
            obtain ⟨hg21, h⟩ := gd_some h
            cases h
            exact rt_z hg21 C hP hS dX12_isAim_56
theorem metX12_isAim (l : Launch) (D : va_G) (cy : Nat → ClassId) (st : Nat → Nat) (sz : Nat) (x0 : Int32) (x1 : Int32) (x2 : Int32) (x3 : Int32) (x4 : Int32) {r : Int32} (h : fX12_isAim x0 x1 x2 x3 x4 = some r) : Met l yX12_isAim wsX12_isAim rmX12_isAim (va_Pc [.int x0, .int x1, .int x2, .int x3, .int x4] (Px D [(cy 0, .int), (cy 1, .long), (cy 2, .boolean), (cy 3, .byte), (cy 4, .object "HissHorn$Text")] st V0 sz u00)) (Qi D V0 A0 sz r u00) 0 0 (Ax A0 sz) := by
  refine Met.ofW (cc := cX12_isAim) (maxL := 5) (ret := (some .boolean)) (by decide) rfl ?_
  intro p e s m args below meth c s₁ B hml hv
  obtain ⟨rfl, hsz, hP, hK⟩ := hv
  subst hsz
  have C : Cx RX12 cX12_isAim 5 (some .boolean) wsX12_isAim p s m _ meth c := ⟨B.exec, B.bytes, hml, B.returns, findClass_of_methodNamed B.named, atoms_spec (ws := wsX12_isAim) B.pre, B.notSynchronized⟩
  have hl := lv_entry ([.int x0, .int x1, .int x2, .int x3, .int x4]) (n := 5) (Nat.le_of_ble_eq_true rfl)
  rw [lg_entry_eq]
  exact wX12_isAim C hK x0 x1 x2 x3 x4 h hP va_S.rf hl
