theorem dX12_compares_12 : decode cX12_compares 12 = .ok (.istore_n 3, 1) := by decide +kernel
theorem dX12_compares_13 : decode cX12_compares 13 = .ok (.aload_n 0, 1) := by decide +kernel
theorem dX12_compares_14 : decode cX12_compares 14 = .ok (.getfield 182, 3) := by decide +kernel
theorem dX12_compares_17 : decode cX12_compares 17 = .ok (.iconst (-1), 1) := by decide +kernel
theorem dX12_compares_18 : decode cX12_compares 18 = .ok (.if_icmp .eq 5, 3) := by decide +kernel
theorem dX12_compares_23 : decode cX12_compares 23 = .ok (.aload_n 0, 1) := by decide +kernel
set_option maxRecDepth 20000 in
theorem ggX12_compares_X12_look : GoodIn wsX12_compares wsX12_look := goodIn_r _ [14, 2, 15, 16, 17, 145, 146, 147, 148, 149, 150, 151, 152, 153, 154, 155, 156, 157, 158, 159, 160, 161, 162, 163, 164, 165, 166, 167, 168, 169, 170, 171, 172, 173, 174, 175, 176, 177, 178, 179, 180, 181, 182, 183, 184, 185, 186, 187, 188, 189, 190, 191, 192, 193, 194, 195, 196, 197, 198, 199, 200, 201, 202, 203, 204, 205, 206, 207, 208, 209, 210, 211, 212, 213] rfl (by decide +kernel)
set_option maxRecDepth 20000 in
theorem gX12_compares_X12_look : GoodIn wsX12_compares (wsV RX12 192 RX12 yX12_look wsX12_look) := goodIn_app (goodIn_of _ (by decide +kernel)) ggX12_compares_X12_look
theorem dX12_compares_24 : decode cX12_compares 24 = .ok (.invokevirtual 192, 3) := by decide +kernel
theorem dX12_compares_27 : decode cX12_compares 27 = .ok (.istore 4, 2) := by decide +kernel
theorem dX12_compares_29 : decode cX12_compares 29 = .ok (.iload 4, 2) := by decide +kernel
set_option maxRecDepth 20000 in
theorem ggX12_compares_X12_isSign : GoodIn wsX12_compares wsX12_isSign := goodIn_r _ [144] rfl (by decide +kernel)
set_option maxRecDepth 20000 in
theorem gX12_compares_X12_isSign : GoodIn wsX12_compares (va_wsS RX12 237 yX12_isSign wsX12_isSign) := goodIn_app (goodIn_of _ (by decide +kernel)) ggX12_compares_X12_isSign
theorem dX12_compares_31 : decode cX12_compares 31 = .ok (.invokestatic 237, 3) := by decide +kernel
theorem dX12_compares_34 : decode cX12_compares 34 = .ok (.ifCond .ne 8, 3) := by decide +kernel
theorem dX12_compares_42 : decode cX12_compares 42 = .ok (.aload_n 0, 1) := by decide +kernel
theorem dX12_compares_43 : decode cX12_compares 43 = .ok (.dup, 1) := by decide +kernel
theorem dX12_compares_44 : decode cX12_compares 44 = .ok (.getfield 173, 3) := by decide +kernel
theorem dX12_compares_47 : decode cX12_compares 47 = .ok (.iconst 1, 1) := by decide +kernel
theorem dX12_compares_48 : decode cX12_compares 48 = .ok (.iadd, 1) := by decide +kernel
theorem dX12_compares_49 : decode cX12_compares 49 = .ok (.putfield 173, 3) := by decide +kernel
theorem dX12_compares_52 : decode cX12_compares 52 = .ok (.aload_n 0, 1) := by decide +kernel
set_option maxRecDepth 20000 in
theorem ggX12_compares_X12_sum : GoodIn wsX12_compares wsX12_sum := goodIn_r _ [7, 1, 2, 8, 9, 10, 6, 11, 12, 13, 14, 15, 16, 17, 18, 19, 20, 21, 22, 23, 24, 25, 26, 27, 28, 29, 30, 31, 32, 33, 34, 35, 36, 37, 38, 39, 40, 41, 42, 43, 44, 45, 46, 47, 48, 49, 50, 51, 52, 53, 54, 55, 56, 57, 58, 59, 60, 61, 62, 63, 64, 65, 66, 67, 68, 69, 70, 71, 72, 73, 74, 75, 76, 77, 78, 79, 80, 81, 82, 83, 84, 85, 86, 87, 88, 89, 90, 91, 92, 93, 94, 95, 96, 97, 98, 99, 100, 101, 102, 103, 104, 105, 106, 107, 108, 109, 110, 111, 112, 113, 114, 115, 116, 117, 118, 119, 120, 121, 122, 123, 124, 125, 126, 127, 128, 129, 3, 4, 5, 130, 131, 132, 133, 134, 135, 136, 137, 138, 139, 140, 141, 145, 146, 147, 148, 149, 150, 151, 152, 153, 154, 155, 156, 157, 158, 159, 160, 161, 162, 163, 164, 165, 166, 167, 168, 169, 170, 171, 172, 173, 174, 175, 176, 177, 178, 179, 180, 181, 182, 183, 184, 185, 186, 187, 188, 189, 190, 191, 192, 193, 194, 195, 196, 197, 198, 199, 200, 201, 202, 203, 204, 205, 206, 207, 208, 209, 210, 211, 212, 213] rfl (by decide +kernel)
set_option maxRecDepth 20000 in
theorem gX12_compares_X12_sum : GoodIn wsX12_compares (wsV RX12 217 RX12 yX12_sum wsX12_sum) := goodIn_app (goodIn_of _ (by decide +kernel)) ggX12_compares_X12_sum
theorem dX12_compares_53 : decode cX12_compares 53 = .ok (.invokevirtual 217, 3) := by decide +kernel
theorem dX12_compares_56 : decode cX12_compares 56 = .ok (.istore 5, 2) := by decide +kernel
theorem dX12_compares_58 : decode cX12_compares 58 = .ok (.iload 4, 2) := by decide +kernel
theorem dX12_compares_60 : decode cX12_compares 60 = .ok (.bipush 61, 2) := by decide +kernel
theorem dX12_compares_62 : decode cX12_compares 62 = .ok (.if_icmp .ne 17, 3) := by decide +kernel
theorem dX12_compares_79 : decode cX12_compares 79 = .ok (.iload 4, 2) := by decide +kernel
theorem dX12_compares_81 : decode cX12_compares 81 = .ok (.bipush 60, 2) := by decide +kernel
theorem dX12_compares_83 : decode cX12_compares 83 = .ok (.if_icmp .ne 17, 3) := by decide +kernel
theorem dX12_compares_100 : decode cX12_compares 100 = .ok (.iload_n 3, 1) := by decide +kernel
theorem dX12_compares_101 : decode cX12_compares 101 = .ok (.iload 5, 2) := by decide +kernel
theorem dX12_compares_103 : decode cX12_compares 103 = .ok (.if_icmp .le 7, 3) := by decide +kernel
theorem dX12_compares_110 : decode cX12_compares 110 = .ok (.iconst 0, 1) := by decide +kernel
theorem dX12_compares_111 : decode cX12_compares 111 = .ok (.ireturn, 1) := by decide +kernel
theorem dX12_compares_106 : decode cX12_compares 106 = .ok (.iconst 1, 1) := by decide +kernel
theorem dX12_compares_107 : decode cX12_compares 107 = .ok (.goto 4, 3) := by decide +kernel
theorem dX12_compares_86 : decode cX12_compares 86 = .ok (.iload_n 3, 1) := by decide +kernel
theorem dX12_compares_87 : decode cX12_compares 87 = .ok (.iload 5, 2) := by decide +kernel
theorem dX12_compares_89 : decode cX12_compares 89 = .ok (.if_icmp .ge 7, 3) := by decide +kernel
theorem dX12_compares_96 : decode cX12_compares 96 = .ok (.iconst 0, 1) := by decide +kernel
theorem dX12_compares_97 : decode cX12_compares 97 = .ok (.goto 14, 3) := by decide +kernel
theorem dX12_compares_92 : decode cX12_compares 92 = .ok (.iconst 1, 1) := by decide +kernel
theorem dX12_compares_93 : decode cX12_compares 93 = .ok (.goto 18, 3) := by decide +kernel
theorem dX12_compares_65 : decode cX12_compares 65 = .ok (.iload_n 3, 1) := by decide +kernel
theorem dX12_compares_66 : decode cX12_compares 66 = .ok (.iload 5, 2) := by decide +kernel
theorem dX12_compares_68 : decode cX12_compares 68 = .ok (.if_icmp .ne 7, 3) := by decide +kernel
theorem dX12_compares_75 : decode cX12_compares 75 = .ok (.iconst 0, 1) := by decide +kernel
theorem dX12_compares_76 : decode cX12_compares 76 = .ok (.goto 35, 3) := by decide +kernel
theorem dX12_compares_71 : decode cX12_compares 71 = .ok (.iconst 1, 1) := by decide +kernel
theorem dX12_compares_72 : decode cX12_compares 72 = .ok (.goto 39, 3) := by decide +kernel
theorem dX12_compares_37 : decode cX12_compares 37 = .ok (.aload_n 0, 1) := by decide +kernel
set_option maxRecDepth 20000 in
theorem ggX12_compares_X12_fails : GoodIn wsX12_compares wsX12_fails := goodIn_r _ [129, 1, 2, 145, 146, 147, 148, 149, 150, 151, 152, 153, 154, 155, 156, 157, 158, 159, 160, 161, 162, 163, 164, 165, 166, 167, 168, 169, 170, 171, 172, 173, 174, 175, 176, 177, 178, 179, 180, 181, 182, 183, 184, 185, 186, 187, 188, 189, 190, 191, 192, 193, 194, 195, 196, 197, 198, 199, 200, 201, 202, 203, 204, 205, 206, 207, 208, 209, 210, 211, 212, 213] rfl (by decide +kernel)
set_option maxRecDepth 20000 in
theorem gX12_compares_X12_fails : GoodIn wsX12_compares (wsV RX12 188 RX12 yX12_fails wsX12_fails) := goodIn_app (goodIn_of _ (by decide +kernel)) ggX12_compares_X12_fails
theorem dX12_compares_38 : decode cX12_compares 38 = .ok (.invokevirtual 188, 3) := by decide +kernel
theorem dX12_compares_41 : decode cX12_compares 41 = .ok (.ireturn, 1) := by decide +kernel
theorem dX12_compares_21 : decode cX12_compares 21 = .ok (.iconst 0, 1) := by decide +kernel
theorem dX12_compares_22 : decode cX12_compares 22 = .ok (.ireturn, 1) := by decide +kernel
theorem dX12_compares_0 : decode cX12_compares 0 = .ok (.iload_n 1, 1) := by decide +kernel
theorem dX12_compares_1 : decode cX12_compares 1 = .ok (.ifCond .eq 7, 3) := by decide +kernel
theorem dX12_compares_8 : decode cX12_compares 8 = .ok (.aload_n 0, 1) := by decide +kernel
theorem dX12_compares_9 : decode cX12_compares 9 = .ok (.invokevirtual 217, 3) := by decide +kernel
theorem dX12_compares_4 : decode cX12_compares 4 = .ok (.iload_n 2, 1) := by decide +kernel
theorem dX12_compares_5 : decode cX12_compares 5 = .ok (.goto 7, 3) := by decide +kernel
/-- HissHornModel.compares(ZI)Z of cell 0 -/
def rmX12_compares_0 : Room := { frames := 69, cells := 0, slots := 0, locals := 4211 }
theorem hX12_compares_0_X12 : ∀ w ∈ u_ws RX12 TX12 69, w ∈ wsX12_compares := fun w h => (List.mem_cons_of_mem _ (List.mem_append_right _ h))
theorem mX12_compares_0_1 : Cond.fieldLink RX12 182 "HissHornModel" "fault" "I" ∈ wsX12_compares := (List.mem_cons_of_mem _ (List.mem_append_left _ (List.mem_append_left _ (List.mem_of_getElem? (i := 0) rfl))))
theorem mX12_compares_0_2 : Cond.fieldLink RX12 173 "HissHornModel" "at" "I" ∈ wsX12_compares := (List.mem_cons_of_mem _ (List.mem_append_left _ (List.mem_append_left _ (List.mem_of_getElem? (i := 1) rfl))))
def GX12_compares_0_12 (y0 : Int32) (u : SX) : Option (Int32 × SX) := (if (u.1 7) = (-1) then ((fX12_look_0  u).bind fun q => match q with | (r4, u5) => ((fX12_isSign r4).bind fun r7 => (if r7 = 0 then ((fX12_fails_0  u5).bind fun q => match q with | (r21, u22) => (gd (isB r21) (some (r21, u22)))) else (lt (sI u5 6 ((u5.1 6) + 1)) fun u10 => ((rX12sumg 64 0  0 u10).bind fun q => match q with | (r12, u13) => (if r4 = 61 then (if y0 = r12 then (gd (isB 1) (some (1, u13))) else (gd (isB 0) (some (0, u13)))) else (if r4 = 60 then (if r12 ≤ y0 then (gd (isB 0) (some (0, u13))) else (gd (isB 1) (some (1, u13)))) else (if y0 ≤ r12 then (gd (isB 0) (some (0, u13))) else (gd (isB 1) (some (1, u13))))))))))) else (gd (isB 0) (some (0, u))))
def fX12_compares_0 (x1 : Int32) (x2 : Int32) (u : SX) : Option (Int32 × SX) := (if x1 = 0 then ((rX12sumg 64 0  0 u).bind fun q => match q with | (r1, u2) => (GX12_compares_0_12 r1 u2)) else (GX12_compares_0_12 x2 u))
set_option maxHeartbeats 4000000 in
set_option maxRecDepth 100000 in
theorem wGX12_compares_0_12 {p : Program} {l : Launch} {e : Env} {s : State} {m : MethodId} {args : Array Value} {below : List Frame} {meth : Method} {c : Code} {D : va_G} {cy : Nat → ClassId} {ad st : Nat → Nat} (C : Cx RX12 cX12_compares 6 (some .boolean) wsX12_compares p s m args meth c) (hK : Ky D [(cy 0, .int), (cy 1, .long), (cy 2, .boolean), (cy 3, .byte), (cy 4, .object "HissHorn$Text")] st s) (hJ : JM ad st) {r : Int32} {u' : SX}   (y0 : Int32) (u : SX) (H : Heap) (locs : List Loc) (ls : Array Slot) (h : GX12_compares_0_12 y0 u = some (r, u')) (hP : va_P D vwCl (VM cy ad st u) H) (hS : va_S (Ax (AM ad) s.heap.size) s.heap H locs) (hl : lv_has ls 6 [(0, .ref (ad 0))]) : W p l e rmX12_compares_0 s m args below meth c H locs 0 0 (MQ below (Qi D (VM cy ad st) (AM ad) s.heap.size r u') args s 0 0 (Ax (AM ad) s.heap.size)) (F0 m 12 ls [.int y0]) := by
  unfold GX12_compares_0_12 at h
  refine lv_istore_n (lv' := [(3, .int y0), (0, .ref (ad 0))]) C.1 C.2.1 dX12_compares_12 rfl hl (by decide) rfl (fun ls hl => ?_)
  replace hl := lv_sub (l' := [(0, .ref (ad 0)), (3, .int y0)]) hl [1, 0] rfl
  refine lv_aload_n C.1 C.2.1 dX12_compares_13 rfl (lv_at hl 0 rfl) ?_
  refine gM_0_fault C hX12_compares_0_X12 hK hP mX12_compares_0_1 dX12_compares_14 ?_
  refine lv_iconst (v := (-1)) C.1 C.2.1 dX12_compares_17 (by decide) ?_
  refine lv_icmp_eq (tgt := 23) C.1 C.2.1 dX12_compares_18 (by decide) (fun c18 => ?_) (fun c18 => ?_)
  · rw [if_pos c18] at h
    refine lv_aload_n C.1 C.2.1 dX12_compares_23 rfl (lv_at hl 0 rfl) ?_
    obtain ⟨⟨r4, u5⟩, hc6, h⟩ := bd_some h
    try dsimp only at h
    refine cg_i (As := []) (rest := []) (AM_ge hJ) C hK hP hS (metX12_look_0 l D cy ad st hJ _  hc6) (cwV 0 C.2.2.2.2.2.1 gX12_compares_X12_look rfl rfl rfl (by decide +kernel) ⟨(Nat.le_of_ble_eq_true rfl), (Nat.le_of_ble_eq_true rfl)⟩) 0 12 rfl rfl rfl hl.1 rfl (Nat.le_of_ble_eq_true rfl) dX12_compares_24 ⟨Nat.zero_le _, Nat.zero_le _⟩ (fun H locs hP hS => ?_)
    refine lv_istore (lv' := [(4, .int r4), (0, .ref (ad 0)), (3, .int y0)]) C.1 C.2.1 dX12_compares_27 hl (by decide) rfl (fun ls hl => ?_)
    replace hl := lv_sub (l' := [(0, .ref (ad 0)), (3, .int y0), (4, .int r4)]) hl [1, 2, 0] rfl
    refine lv_iload C.1 C.2.1 dX12_compares_29 (lv_at hl 2 rfl) ?_
    obtain ⟨r7, hc9, h⟩ := bd_some h
    refine cs_i (As := [.int r4]) (rest := []) (AM_ge hJ) C hK hP hS (metX12_isSign l D cy st _ r4 hc9) (va_cwS 1 C.2.2.2.2.2.1 gX12_compares_X12_isSign rfl rfl rfl (by decide +kernel) ⟨(Nat.le_of_ble_eq_true rfl), (Nat.le_of_ble_eq_true rfl)⟩) rfl hl.1 rfl (Nat.le_of_ble_eq_true rfl) dX12_compares_31 ⟨Nat.zero_le _, Nat.zero_le _⟩ (fun H locs hP hS => ?_)
    refine lv_if_ne (tgt := 42) C.1 C.2.1 dX12_compares_34 (by decide) (fun c34 => ?_) (fun c34 => ?_)
    · rw [if_neg c34] at h
      refine lv_aload_n C.1 C.2.1 dX12_compares_42 rfl (lv_at hl 0 rfl) ?_
      refine lv_dup C.1 C.2.1 dX12_compares_43 rfl ?_
      refine gM_0_at C hX12_compares_0_X12 hK hP mX12_compares_0_2 dX12_compares_44 ?_
      refine lv_iconst (v := 1) C.1 C.2.1 dX12_compares_47 (by decide) ?_
      refine lv_iadd C.1 C.2.1 dX12_compares_48 ?_
      refine pM_0_at C hX12_compares_0_X12 hK hP hJ hS mX12_compares_0_2 dX12_compares_49 (fun H locs hP hS => ?_)
      obtain ⟨u10, hu11, h⟩ := lt_some h
      rw [← hu11] at hP
      refine lv_aload_n C.1 C.2.1 dX12_compares_52 rfl (lv_at hl 0 rfl) ?_
      obtain ⟨⟨r12, u13⟩, hc14, h⟩ := bd_some h
      try dsimp only at h
      refine cg_i (As := []) (rest := []) (AM_ge hJ) C hK hP hS ((hRX12sumg_all l D cy ad st hJ 64).1 _  _ _ _ hc14) (cwV 0 C.2.2.2.2.2.1 gX12_compares_X12_sum rfl rfl rfl (by decide +kernel) ⟨(Nat.le_of_ble_eq_true rfl), (Nat.le_of_ble_eq_true rfl)⟩) 0 12 rfl rfl rfl hl.1 rfl (Nat.le_of_ble_eq_true rfl) dX12_compares_53 ⟨Nat.zero_le _, Nat.zero_le _⟩ (fun H locs hP hS => ?_)
      refine lv_istore (lv' := [(5, .int r12), (0, .ref (ad 0)), (3, .int y0), (4, .int r4)]) C.1 C.2.1 dX12_compares_56 hl (by decide) rfl (fun ls hl => ?_)
      replace hl := lv_sub (l' := [(0, .ref (ad 0)), (3, .int y0), (4, .int r4), (5, .int r12)]) hl [1, 2, 3, 0] rfl
      refine lv_iload C.1 C.2.1 dX12_compares_58 (lv_at hl 2 rfl) ?_
      refine lv_bipush (v := 61) C.1 C.2.1 dX12_compares_60 (by decide) ?_
      refine lv_icmp_ne (tgt := 79) C.1 C.2.1 dX12_compares_62 (by decide) (fun c62 => ?_) (fun c62 => ?_)
      · rw [if_neg c62] at h
        refine lv_iload C.1 C.2.1 dX12_compares_79 (lv_at hl 2 rfl) ?_
        refine lv_bipush (v := 60) C.1 C.2.1 dX12_compares_81 (by decide) ?_
        refine lv_icmp_ne (tgt := 100) C.1 C.2.1 dX12_compares_83 (by decide) (fun c83 => ?_) (fun c83 => ?_)
        · rw [if_neg c83] at h
          refine lv_iload_n C.1 C.2.1 dX12_compares_100 rfl (lv_at hl 1 rfl) ?_
          refine lv_iload C.1 C.2.1 dX12_compares_101 (lv_at hl 3 rfl) ?_
          refine lv_icmp_le (tgt := 110) C.1 C.2.1 dX12_compares_103 (by decide) (fun c103 => ?_) (fun c103 => ?_)
          · rw [if_pos c103] at h
            refine lv_iconst (v := 0) C.1 C.2.1 dX12_compares_110 (by decide) ?_
            obtain ⟨hg15, h⟩ := gd_some h
            cases h
            exact rt_z hg15 C hP hS dX12_compares_111
          · rw [if_neg c103] at h
            refine lv_iconst (v := 1) C.1 C.2.1 dX12_compares_106 (by decide) ?_
            refine lv_goto (tgt := 111) C.1 C.2.1 dX12_compares_107 (by decide) ?_
            obtain ⟨hg16, h⟩ := gd_some h
            cases h
            exact rt_z hg16 C hP hS dX12_compares_111
        · rw [if_pos c83] at h
          refine lv_iload_n C.1 C.2.1 dX12_compares_86 rfl (lv_at hl 1 rfl) ?_
          refine lv_iload C.1 C.2.1 dX12_compares_87 (lv_at hl 3 rfl) ?_
          refine lv_icmp_ge (tgt := 96) C.1 C.2.1 dX12_compares_89 (by decide) (fun c89 => ?_) (fun c89 => ?_)
          · rw [if_pos c89] at h
            refine lv_iconst (v := 0) C.1 C.2.1 dX12_compares_96 (by decide) ?_
            refine lv_goto (tgt := 111) C.1 C.2.1 dX12_compares_97 (by decide) ?_
            obtain ⟨hg17, h⟩ := gd_some h
            cases h
            exact rt_z hg17 C hP hS dX12_compares_111
          · rw [if_neg c89] at h
            refine lv_iconst (v := 1) C.1 C.2.1 dX12_compares_92 (by decide) ?_
            refine lv_goto (tgt := 111) C.1 C.2.1 dX12_compares_93 (by decide) ?_
            obtain ⟨hg18, h⟩ := gd_some h
            cases h
            exact rt_z hg18 C hP hS dX12_compares_111
      · rw [if_pos c62] at h
        refine lv_iload_n C.1 C.2.1 dX12_compares_65 rfl (lv_at hl 1 rfl) ?_
        refine lv_iload C.1 C.2.1 dX12_compares_66 (lv_at hl 3 rfl) ?_
        refine lv_icmp_ne (tgt := 75) C.1 C.2.1 dX12_compares_68 (by decide) (fun c68 => ?_) (fun c68 => ?_)
        · rw [if_neg c68] at h
          refine lv_iconst (v := 0) C.1 C.2.1 dX12_compares_75 (by decide) ?_
          refine lv_goto (tgt := 111) C.1 C.2.1 dX12_compares_76 (by decide) ?_
          obtain ⟨hg19, h⟩ := gd_some h
          cases h
          exact rt_z hg19 C hP hS dX12_compares_111
        · rw [if_pos c68] at h
          refine lv_iconst (v := 1) C.1 C.2.1 dX12_compares_71 (by decide) ?_
          refine lv_goto (tgt := 111) C.1 C.2.1 dX12_compares_72 (by decide) ?_
          obtain ⟨hg20, h⟩ := gd_some h
          cases h
          exact rt_z hg20 C hP hS dX12_compares_111
    · rw [if_pos c34] at h
      refine lv_aload_n C.1 C.2.1 dX12_compares_37 rfl (lv_at hl 0 rfl) ?_
      obtain ⟨⟨r21, u22⟩, hc23, h⟩ := bd_some h
      try dsimp only at h
      refine cg_i (As := []) (rest := []) (AM_ge hJ) C hK hP hS (metX12_fails_0 l D cy ad st hJ _  hc23) (cwV 0 C.2.2.2.2.2.1 gX12_compares_X12_fails rfl rfl rfl (by decide +kernel) ⟨(Nat.le_of_ble_eq_true rfl), (Nat.le_of_ble_eq_true rfl)⟩) 0 12 rfl rfl rfl hl.1 rfl (Nat.le_of_ble_eq_true rfl) dX12_compares_38 ⟨Nat.zero_le _, Nat.zero_le _⟩ (fun H locs hP hS => ?_)
      obtain ⟨hg24, h⟩ := gd_some h
      cases h
      exact rt_z hg24 C hP hS dX12_compares_41
  · rw [if_neg c18] at h
    refine lv_iconst (v := 0) C.1 C.2.1 dX12_compares_21 (by decide) ?_
    obtain ⟨hg25, h⟩ := gd_some h
    cases h
    exact rt_z hg25 C hP hS dX12_compares_22
set_option maxHeartbeats 4000000 in
set_option maxRecDepth 100000 in
theorem wX12_compares_0 {p : Program} {l : Launch} {e : Env} {s : State} {m : MethodId} {args : Array Value} {below : List Frame} {meth : Method} {c : Code} {D : va_G} {cy : Nat → ClassId} {ad st : Nat → Nat} (C : Cx RX12 cX12_compares 6 (some .boolean) wsX12_compares p s m args meth c) (hK : Ky D [(cy 0, .int), (cy 1, .long), (cy 2, .boolean), (cy 3, .byte), (cy 4, .object "HissHorn$Text")] st s) (hJ : JM ad st) (x1 : Int32) (x2 : Int32) {u : SX} {r : Int32} {u' : SX} {H : Heap} {locs : List Loc} {ls : Array Slot} (h : fX12_compares_0 x1 x2 u = some (r, u')) (hP : va_P D vwCl (VM cy ad st u) H) (hS : va_S (Ax (AM ad) s.heap.size) s.heap H locs) (hl : lv_has ls 6 [(0, .ref (ad 0)), (1, .int x1), (2, .int x2)]) : W p l e rmX12_compares_0 s m args below meth c H locs 0 0 (MQ below (Qi D (VM cy ad st) (AM ad) s.heap.size r u') args s 0 0 (Ax (AM ad) s.heap.size)) (F0 m 0 ls []) := by
  unfold fX12_compares_0 at h
  refine lv_iload_n C.1 C.2.1 dX12_compares_0 rfl (lv_at hl 1 rfl) ?_
  refine lv_if_eq (tgt := 8) C.1 C.2.1 dX12_compares_1 (by decide) (fun c1 => ?_) (fun c1 => ?_)
  · rw [if_pos c1] at h
    refine lv_aload_n C.1 C.2.1 dX12_compares_8 rfl (lv_at hl 0 rfl) ?_
    obtain ⟨⟨r1, u2⟩, hc3, h⟩ := bd_some h
    try dsimp only at h
    refine cg_i (As := []) (rest := []) (AM_ge hJ) C hK hP hS ((hRX12sumg_all l D cy ad st hJ 64).1 _  _ _ _ hc3) (cwV 0 C.2.2.2.2.2.1 gX12_compares_X12_sum rfl rfl rfl (by decide +kernel) ⟨(Nat.le_of_ble_eq_true rfl), (Nat.le_of_ble_eq_true rfl)⟩) 0 12 rfl rfl rfl hl.1 rfl (Nat.le_of_ble_eq_true rfl) dX12_compares_9 ⟨Nat.zero_le _, Nat.zero_le _⟩ (fun H locs hP hS => ?_)
    exact wGX12_compares_0_12 C hK hJ _ _ _ _ _ h hP hS (lv_sub hl [0] rfl)
  · rw [if_neg c1] at h
    refine lv_iload_n C.1 C.2.1 dX12_compares_4 rfl (lv_at hl 2 rfl) ?_
    refine lv_goto (tgt := 12) C.1 C.2.1 dX12_compares_5 (by decide) ?_
    exact wGX12_compares_0_12 C hK hJ _ _ _ _ _ h hP hS (lv_sub hl [0] rfl)
theorem metX12_compares_0 (l : Launch) (D : va_G) (cy : Nat → ClassId) (ad st : Nat → Nat) (hJ : JM ad st) (sz : Nat) (x1 : Int32) (x2 : Int32) {u : SX} {r : Int32} {u' : SX} (h : fX12_compares_0 x1 x2 u = some (r, u')) : Met l yX12_compares wsX12_compares rmX12_compares_0 (va_Pc [.ref (ad 0), .int x1, .int x2] (Px D [(cy 0, .int), (cy 1, .long), (cy 2, .boolean), (cy 3, .byte), (cy 4, .object "HissHorn$Text")] st (VM cy ad st) sz u)) (Qi D (VM cy ad st) (AM ad) sz r u') 0 0 (Ax (AM ad) sz) := by
  refine Met.ofW (cc := cX12_compares) (maxL := 6) (ret := (some .boolean)) (by decide) rfl ?_
  intro p e s m args below meth c s₁ B hml hv
  obtain ⟨rfl, hsz, hP, hK⟩ := hv
  subst hsz
  have C : Cx RX12 cX12_compares 6 (some .boolean) wsX12_compares p s m _ meth c := ⟨B.exec, B.bytes, hml, B.returns, findClass_of_methodNamed B.named, atoms_spec (ws := wsX12_compares) B.pre, B.notSynchronized⟩
  have hl := lv_entry ([.ref (ad 0), .int x1, .int x2]) (n := 6) (Nat.le_of_ble_eq_true rfl)
  rw [lg_entry_eq]
  exact wX12_compares_0 C hK hJ x1 x2 h hP va_S.rf hl

/-- room of a recursion by its depth -/
def rmX12conditiong (d : Nat) : Room := { frames := 70 + d, cells := 0, slots := 0, locals := 4236 + 64 * d }
theorem rmX12conditiong_f (d : Nat) : 70 ≤ (rmX12conditiong d).frames := Nat.le_add_right _ _
theorem rmX12conditiong_l (d : Nat) : 4236 ≤ (rmX12conditiong d).locals := Nat.le_add_right _ _
theorem rmX12conditiong_sf (d : Nat) : (rmX12conditiong d).frames + 1 ≤ (rmX12conditiong (d + 1)).frames := Nat.le_refl _
theorem rmX12conditiong_sl (d : Nat) {k : Nat} (h : k ≤ 64) : k + (rmX12conditiong d).locals ≤ (rmX12conditiong (d + 1)).locals := by show k + (4236 + 64 * d) ≤ 4236 + 64 * (d + 1); omega
def hRX12conditiong (l : Launch) (D : va_G) (cy : Nat → ClassId) (ad st : Nat → Nat) (rc : Nat → Int32 → Int32 → SX → Option (Int32 × SX)) (dd : Nat) : Prop := (∀ (sz : Nat) (x1 : Int32) (x2 : Int32) (u : SX) (r : Int32) (u' : SX), rc 0 x1 x2 u = some (r, u') → Met l yX12_condition wsX12_condition (rmX12conditiong dd) (va_Pc [.ref (ad 0), .int x1, .int x2] (Px D [(cy 0, .int), (cy 1, .long), (cy 2, .boolean), (cy 3, .byte), (cy 4, .object "HissHorn$Text")] st (VM cy ad st) sz u)) (Qi D (VM cy ad st) (AM ad) sz r u') 0 0 (Ax (AM ad) sz)) ∧ (∀ (sz : Nat) (x1 : Int32) (x2 : Int32) (u : SX) (r : Int32) (u' : SX), rc 1 x1 x2 u = some (r, u') → Met l yX12_part wsX12_part (rmX12conditiong dd) (va_Pc [.ref (ad 0), .int x1, .int x2] (Px D [(cy 0, .int), (cy 1, .long), (cy 2, .boolean), (cy 3, .byte), (cy 4, .object "HissHorn$Text")] st (VM cy ad st) sz u)) (Qi D (VM cy ad st) (AM ad) sz r u') 0 0 (Ax (AM ad) sz)) ∧ (∀ (sz : Nat)  (u : SX) (r : Int32) (u' : SX), rc 2  0 0 u = some (r, u') → Met l yX12_unit wsX12_unit (rmX12conditiong dd) (va_Pc [.ref (ad 0)] (Px D [(cy 0, .int), (cy 1, .long), (cy 2, .boolean), (cy 3, .byte), (cy 4, .object "HissHorn$Text")] st (VM cy ad st) sz u)) (Qi D (VM cy ad st) (AM ad) sz r u') 0 0 (Ax (AM ad) sz))

theorem dX12_condition_56 : decode cX12_condition 56 = .ok (.istore_n 3, 1) := by decide +kernel
theorem dX12_condition_57 : decode cX12_condition 57 = .ok (.goto (-50), 3) := by decide +kernel
theorem dX12_condition_51 : decode cX12_condition 51 = .ok (.iconst 1, 1) := by decide +kernel
theorem dX12_condition_52 : decode cX12_condition 52 = .ok (.goto 4, 3) := by decide +kernel
theorem dX12_condition_7 : decode cX12_condition 7 = .ok (.aload_n 0, 1) := by decide +kernel
theorem dX12_condition_8 : decode cX12_condition 8 = .ok (.getfield 182, 3) := by decide +kernel
theorem dX12_condition_11 : decode cX12_condition 11 = .ok (.iconst (-1), 1) := by decide +kernel
theorem dX12_condition_12 : decode cX12_condition 12 = .ok (.if_icmp .ne 48, 3) := by decide +kernel
theorem dX12_condition_60 : decode cX12_condition 60 = .ok (.iload_n 3, 1) := by decide +kernel
theorem dX12_condition_61 : decode cX12_condition 61 = .ok (.ireturn, 1) := by decide +kernel
theorem dX12_condition_15 : decode cX12_condition 15 = .ok (.aload_n 0, 1) := by decide +kernel
set_option maxRecDepth 20000 in
theorem ggX12_condition_X12_look : GoodIn wsX12_condition wsX12_look := goodIn_r _ [10, 2, 11, 12, 13, 160, 161, 162, 163, 164, 165, 166, 167, 168, 169, 170, 171, 172, 173, 174, 175, 176, 177, 178, 179, 180, 181, 182, 183, 184, 185, 186, 187, 188, 189, 190, 191, 192, 193, 194, 195, 196, 197, 198, 199, 200, 201, 202, 203, 204, 205, 206, 207, 208, 209, 210, 211, 212, 213, 214, 215, 216, 217, 218, 219, 220, 221, 222, 223, 224, 225, 226, 227, 228] rfl (by decide +kernel)
set_option maxRecDepth 20000 in
theorem gX12_condition_X12_look : GoodIn wsX12_condition (wsV RX12 192 RX12 yX12_look wsX12_look) := goodIn_app (goodIn_of _ (by decide +kernel)) ggX12_condition_X12_look
theorem dX12_condition_16 : decode cX12_condition 16 = .ok (.invokevirtual 192, 3) := by decide +kernel
theorem dX12_condition_19 : decode cX12_condition 19 = .ok (.bipush 124, 2) := by decide +kernel
theorem dX12_condition_21 : decode cX12_condition 21 = .ok (.if_icmp .ne 39, 3) := by decide +kernel
theorem dX12_condition_24 : decode cX12_condition 24 = .ok (.aload_n 0, 1) := by decide +kernel
theorem dX12_condition_25 : decode cX12_condition 25 = .ok (.dup, 1) := by decide +kernel
theorem dX12_condition_26 : decode cX12_condition 26 = .ok (.getfield 173, 3) := by decide +kernel
theorem dX12_condition_29 : decode cX12_condition 29 = .ok (.iconst 1, 1) := by decide +kernel
theorem dX12_condition_30 : decode cX12_condition 30 = .ok (.iadd, 1) := by decide +kernel
theorem dX12_condition_31 : decode cX12_condition 31 = .ok (.putfield 173, 3) := by decide +kernel
theorem dX12_condition_34 : decode cX12_condition 34 = .ok (.aload_n 0, 1) := by decide +kernel
theorem dX12_condition_35 : decode cX12_condition 35 = .ok (.iconst 0, 1) := by decide +kernel
theorem dX12_condition_36 : decode cX12_condition 36 = .ok (.iconst 0, 1) := by decide +kernel
set_option maxRecDepth 20000 in
theorem ggX12_condition_X12_part : GoodIn wsX12_condition wsX12_part := goodIn_r _ [14, 1, 2, 15, 16, 17, 6, 18, 19, 20, 21, 22, 23, 24, 25, 7, 8, 9, 10, 11, 12, 13, 26, 27, 28, 29, 30, 31, 32, 33, 34, 35, 36, 37, 38, 39, 40, 41, 42, 43, 44, 45, 46, 47, 48, 49, 50, 51, 52, 53, 54, 55, 56, 57, 58, 59, 60, 61, 62, 63, 64, 65, 66, 67, 68, 69, 70, 71, 72, 73, 74, 75, 76, 77, 78, 79, 80, 81, 82, 83, 84, 85, 86, 87, 88, 89, 90, 91, 92, 93, 94, 95, 96, 97, 98, 99, 100, 101, 102, 103, 104, 105, 106, 107, 108, 109, 110, 111, 112, 113, 114, 115, 116, 117, 118, 119, 120, 121, 122, 123, 124, 125, 126, 127, 128, 129, 130, 131, 132, 133, 134, 135, 136, 137, 138, 139, 140, 141, 142, 143, 144, 145, 146, 147, 148, 149, 150, 151, 152, 153, 154, 155, 0, 3, 4, 5, 156, 157, 158, 159, 160, 161, 162, 163, 164, 165, 166, 167, 168, 169, 170, 171, 172, 173, 174, 175, 176, 177, 178, 179, 180, 181, 182, 183, 184, 185, 186, 187, 188, 189, 190, 191, 192, 193, 194, 195, 196, 197, 198, 199, 200, 201, 202, 203, 204, 205, 206, 207, 208, 209, 210, 211, 212, 213, 214, 215, 216, 217, 218, 219, 220, 221, 222, 223, 224, 225, 226, 227, 228] rfl (by decide +kernel)
set_option maxRecDepth 20000 in
theorem gX12_condition_X12_part : GoodIn wsX12_condition (wsV RX12 250 RX12 yX12_part wsX12_part) := goodIn_app (goodIn_of _ (by decide +kernel)) ggX12_condition_X12_part
theorem dX12_condition_37 : decode cX12_condition 37 = .ok (.invokevirtual 250, 3) := by decide +kernel
theorem dX12_condition_40 : decode cX12_condition 40 = .ok (.istore 4, 2) := by decide +kernel
theorem dX12_condition_42 : decode cX12_condition 42 = .ok (.iload_n 3, 1) := by decide +kernel
theorem dX12_condition_43 : decode cX12_condition 43 = .ok (.ifCond .ne 8, 3) := by decide +kernel
theorem dX12_condition_46 : decode cX12_condition 46 = .ok (.iload 4, 2) := by decide +kernel
theorem dX12_condition_48 : decode cX12_condition 48 = .ok (.ifCond .eq 7, 3) := by decide +kernel
theorem dX12_condition_55 : decode cX12_condition 55 = .ok (.iconst 0, 1) := by decide +kernel
theorem dX12_condition_0 : decode cX12_condition 0 = .ok (.aload_n 0, 1) := by decide +kernel
theorem dX12_condition_1 : decode cX12_condition 1 = .ok (.iload_n 1, 1) := by decide +kernel
theorem dX12_condition_2 : decode cX12_condition 2 = .ok (.iload_n 2, 1) := by decide +kernel
theorem dX12_condition_3 : decode cX12_condition 3 = .ok (.invokevirtual 250, 3) := by decide +kernel
theorem dX12_condition_6 : decode cX12_condition 6 = .ok (.istore_n 3, 1) := by decide +kernel
/-- HissHornModel.condition(ZI)Z of cell 0 -/
theorem hX12_condition_0_X12 : ∀ w ∈ u_ws RX12 TX12 69, w ∈ wsX12_condition := fun w h => (List.mem_cons_of_mem _ (List.mem_append_right _ h))
theorem mX12_condition_0_1 : Cond.fieldLink RX12 182 "HissHornModel" "fault" "I" ∈ wsX12_condition := (List.mem_cons_of_mem _ (List.mem_append_left _ (List.mem_append_left _ (List.mem_of_getElem? (i := 0) rfl))))
theorem mX12_condition_0_2 : Cond.fieldLink RX12 173 "HissHornModel" "at" "I" ∈ wsX12_condition := (List.mem_cons_of_mem _ (List.mem_append_left _ (List.mem_append_left _ (List.mem_of_getElem? (i := 1) rfl))))
def GX12_condition_0_56 (rc : Nat → Int32 → Int32 → SX → Option (Int32 × SX)) (k7 : Int32 → SX → Option (Int32 × SX)) (y0 : Int32) (u : SX) : Option (Int32 × SX) := (k7 y0 u)
def GX12_condition_0_51 (rc : Nat → Int32 → Int32 → SX → Option (Int32 × SX)) (k7 : Int32 → SX → Option (Int32 × SX))  (u : SX) : Option (Int32 × SX) := (GX12_condition_0_56 rc k7 1 u)
def LX12_condition_0_7 (rc : Nat → Int32 → Int32 → SX → Option (Int32 × SX))  : Nat → Int32 → SX → Option (Int32 × SX)
  | 0, _, _ => none
  | n + 1, z3, u => (if (u.1 7) = (-1) then ((fX12_look_0  u).bind fun q => match q with | (r5, u6) => (if r5 = 124 then (lt (sI u6 6 ((u6.1 6) + 1)) fun u9 => ((rc 1 0 0 u9).bind fun q => match q with | (r11, u12) => (if z3 = 0 then (if r11 = 0 then (GX12_condition_0_56 rc (LX12_condition_0_7 rc n) 0 u12) else (GX12_condition_0_51 rc (LX12_condition_0_7 rc n) u12)) else (GX12_condition_0_51 rc (LX12_condition_0_7 rc n) u12)))) else (gd (isB z3) (some (z3, u6))))) else (gd (isB z3) (some (z3, u))))
def fX12_condition_0 (rc : Nat → Int32 → Int32 → SX → Option (Int32 × SX)) (x1 : Int32) (x2 : Int32) (u : SX) : Option (Int32 × SX) := ((rc 1 x1 x2 u).bind fun q => match q with | (r1, u2) => (LX12_condition_0_7 rc  5000 r1 u2))
set_option maxHeartbeats 4000000 in
set_option maxRecDepth 100000 in
theorem wGX12_condition_0_56 {p : Program} {l : Launch} {e : Env} {s : State} {m : MethodId} {args : Array Value} {below : List Frame} {meth : Method} {c : Code} {D : va_G} {cy : Nat → ClassId} {ad st : Nat → Nat} (C : Cx RX12 cX12_condition 5 (some .boolean) wsX12_condition p s m args meth c) (hK : Ky D [(cy 0, .int), (cy 1, .long), (cy 2, .boolean), (cy 3, .byte), (cy 4, .object "HissHorn$Text")] st s) (hJ : JM ad st) {rc : Nat → Int32 → Int32 → SX → Option (Int32 × SX)} {dd : Nat} (hrc : hRX12conditiong l D cy ad st rc dd) {r : Int32} {u' : SX} {k7 : Int32 → SX → Option (Int32 × SX)} (hk7 : ∀ (z3 : Int32) (u : SX) (H : Heap) (locs : List Loc) (ls : Array Slot), k7 z3 u = some (r, u') → va_P D vwCl (VM cy ad st u) H → va_S (Ax (AM ad) s.heap.size) s.heap H locs → lv_has ls 5 [(0, .ref (ad 0)), (3, .int z3)] → W p l e (rmX12conditiong (dd + 1)) s m args below meth c H locs 0 0 (MQ below (Qi D (VM cy ad st) (AM ad) s.heap.size r u') args s 0 0 (Ax (AM ad) s.heap.size)) (F0 m 7 ls [])) (y0 : Int32) (u : SX) (H : Heap) (locs : List Loc) (ls : Array Slot) (h : GX12_condition_0_56 rc k7 y0 u = some (r, u')) (hP : va_P D vwCl (VM cy ad st u) H) (hS : va_S (Ax (AM ad) s.heap.size) s.heap H locs) (hl : lv_has ls 5 [(0, .ref (ad 0))]) : W p l e (rmX12conditiong (dd + 1)) s m args below meth c H locs 0 0 (MQ below (Qi D (VM cy ad st) (AM ad) s.heap.size r u') args s 0 0 (Ax (AM ad) s.heap.size)) (F0 m 56 ls [.int y0]) := by
  unfold GX12_condition_0_56 at h
  refine lv_istore_n (lv' := [(3, .int y0), (0, .ref (ad 0))]) C.1 C.2.1 dX12_condition_56 rfl hl (by decide) rfl (fun ls hl => ?_)
  replace hl := lv_sub (l' := [(0, .ref (ad 0)), (3, .int y0)]) hl [1, 0] rfl
  refine lv_goto (tgt := 7) C.1 C.2.1 dX12_condition_57 (by decide) ?_
  exact hk7 _ _ _ _ _ h hP hS hl
