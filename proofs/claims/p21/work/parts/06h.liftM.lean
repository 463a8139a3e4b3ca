theorem zdX12_knows_60 : (and (and (and (and (and (zk cX12_knows 60 (.iload 5) 2) (zk cX12_knows 62 (.iload 4) 2)) (and (zk cX12_knows 64 (.if_icmp .gt 19) 3) (zk cX12_knows 67 (.aload_n 0) 1))) (and (and (zk cX12_knows 68 (.iload 5) 2) (zk cX12_knows 70 (.aload_n 0) 1)) (and (zk cX12_knows 71 (.getfield 451) 3) (zk cX12_knows 74 (.invokevirtual 463) 3)))) (and (and (and (zk cX12_knows 77 (.iinc 5 1) 3) (zk cX12_knows 80 (.goto (-20)) 3)) (and (zk cX12_knows 103 (.iadd) 1) (zk cX12_knows 104 (.baload) 1))) (and (and (zk cX12_knows 105 (.ifCond .eq 7) 3) (zk cX12_knows 112 (.iconst 0) 1)) (and (zk cX12_knows 113 (.ireturn) 1) (zk cX12_knows 108 (.iconst 1) 1))))) (and (and (and (and (zk cX12_knows 109 (.goto 4) 3) (zk cX12_knows 83 (.aload_n 0) 1)) (and (zk cX12_knows 84 (.getfield 145) 3) (zk cX12_knows 87 (.bipush 60) 2))) (and (and (zk cX12_knows 89 (.iload_n 1) 1) (zk cX12_knows 90 (.imul) 1)) (and (zk cX12_knows 91 (.iload_n 2) 1) (zk cX12_knows 92 (.ifCond .eq 10) 3)))) (and (and (and (zk cX12_knows 102 (.iload_n 3) 1) (zk cX12_knows 95 (.bipush 40) 2)) (and (zk cX12_knows 97 (.iload_n 3) 1) (zk cX12_knows 98 (.iadd) 1))) (and (and (zk cX12_knows 99 (.goto 4) 3) (zk cX12_knows 30 (.iconst 1) 1)) (and (zk cX12_knows 31 (.isub) 1) (zk cX12_knows 32 (.invokestatic 155) 3)))))) = true := by decide +kernel
theorem dX12_knows_60 : decode cX12_knows 60 = .ok (.iload 5, 2) := zk_of (zk_l (zk_l (zk_l (zk_l (zk_l zdX12_knows_60)))))
theorem dX12_knows_62 : decode cX12_knows 62 = .ok (.iload 4, 2) := zk_of (zk_r (zk_l (zk_l (zk_l (zk_l zdX12_knows_60)))))
theorem dX12_knows_64 : decode cX12_knows 64 = .ok (.if_icmp .gt 19, 3) := zk_of (zk_l (zk_r (zk_l (zk_l (zk_l zdX12_knows_60)))))
theorem dX12_knows_67 : decode cX12_knows 67 = .ok (.aload_n 0, 1) := zk_of (zk_r (zk_r (zk_l (zk_l (zk_l zdX12_knows_60)))))
theorem dX12_knows_68 : decode cX12_knows 68 = .ok (.iload 5, 2) := zk_of (zk_l (zk_l (zk_r (zk_l (zk_l zdX12_knows_60)))))
theorem dX12_knows_70 : decode cX12_knows 70 = .ok (.aload_n 0, 1) := zk_of (zk_r (zk_l (zk_r (zk_l (zk_l zdX12_knows_60)))))
theorem dX12_knows_71 : decode cX12_knows 71 = .ok (.getfield 451, 3) := zk_of (zk_l (zk_r (zk_r (zk_l (zk_l zdX12_knows_60)))))
theorem dX12_knows_74 : decode cX12_knows 74 = .ok (.invokevirtual 463, 3) := zk_of (zk_r (zk_r (zk_r (zk_l (zk_l zdX12_knows_60)))))
theorem dX12_knows_77 : decode cX12_knows 77 = .ok (.iinc 5 1, 3) := zk_of (zk_l (zk_l (zk_l (zk_r (zk_l zdX12_knows_60)))))
theorem dX12_knows_80 : decode cX12_knows 80 = .ok (.goto (-20), 3) := zk_of (zk_r (zk_l (zk_l (zk_r (zk_l zdX12_knows_60)))))
theorem dX12_knows_103 : decode cX12_knows 103 = .ok (.iadd, 1) := zk_of (zk_l (zk_r (zk_l (zk_r (zk_l zdX12_knows_60)))))
theorem dX12_knows_104 : decode cX12_knows 104 = .ok (.baload, 1) := zk_of (zk_r (zk_r (zk_l (zk_r (zk_l zdX12_knows_60)))))
theorem dX12_knows_105 : decode cX12_knows 105 = .ok (.ifCond .eq 7, 3) := zk_of (zk_l (zk_l (zk_r (zk_r (zk_l zdX12_knows_60)))))
theorem dX12_knows_112 : decode cX12_knows 112 = .ok (.iconst 0, 1) := zk_of (zk_r (zk_l (zk_r (zk_r (zk_l zdX12_knows_60)))))
theorem dX12_knows_113 : decode cX12_knows 113 = .ok (.ireturn, 1) := zk_of (zk_l (zk_r (zk_r (zk_r (zk_l zdX12_knows_60)))))
theorem dX12_knows_108 : decode cX12_knows 108 = .ok (.iconst 1, 1) := zk_of (zk_r (zk_r (zk_r (zk_r (zk_l zdX12_knows_60)))))
theorem dX12_knows_109 : decode cX12_knows 109 = .ok (.goto 4, 3) := zk_of (zk_l (zk_l (zk_l (zk_l (zk_r zdX12_knows_60)))))
theorem dX12_knows_83 : decode cX12_knows 83 = .ok (.aload_n 0, 1) := zk_of (zk_r (zk_l (zk_l (zk_l (zk_r zdX12_knows_60)))))
theorem dX12_knows_84 : decode cX12_knows 84 = .ok (.getfield 145, 3) := zk_of (zk_l (zk_r (zk_l (zk_l (zk_r zdX12_knows_60)))))
theorem dX12_knows_87 : decode cX12_knows 87 = .ok (.bipush 60, 2) := zk_of (zk_r (zk_r (zk_l (zk_l (zk_r zdX12_knows_60)))))
theorem dX12_knows_89 : decode cX12_knows 89 = .ok (.iload_n 1, 1) := zk_of (zk_l (zk_l (zk_r (zk_l (zk_r zdX12_knows_60)))))
theorem dX12_knows_90 : decode cX12_knows 90 = .ok (.imul, 1) := zk_of (zk_r (zk_l (zk_r (zk_l (zk_r zdX12_knows_60)))))
theorem dX12_knows_91 : decode cX12_knows 91 = .ok (.iload_n 2, 1) := zk_of (zk_l (zk_r (zk_r (zk_l (zk_r zdX12_knows_60)))))
theorem dX12_knows_92 : decode cX12_knows 92 = .ok (.ifCond .eq 10, 3) := zk_of (zk_r (zk_r (zk_r (zk_l (zk_r zdX12_knows_60)))))
theorem dX12_knows_102 : decode cX12_knows 102 = .ok (.iload_n 3, 1) := zk_of (zk_l (zk_l (zk_l (zk_r (zk_r zdX12_knows_60)))))
theorem dX12_knows_95 : decode cX12_knows 95 = .ok (.bipush 40, 2) := zk_of (zk_r (zk_l (zk_l (zk_r (zk_r zdX12_knows_60)))))
theorem dX12_knows_97 : decode cX12_knows 97 = .ok (.iload_n 3, 1) := zk_of (zk_l (zk_r (zk_l (zk_r (zk_r zdX12_knows_60)))))
theorem dX12_knows_98 : decode cX12_knows 98 = .ok (.iadd, 1) := zk_of (zk_r (zk_r (zk_l (zk_r (zk_r zdX12_knows_60)))))
theorem dX12_knows_99 : decode cX12_knows 99 = .ok (.goto 4, 3) := zk_of (zk_l (zk_l (zk_r (zk_r (zk_r zdX12_knows_60)))))
theorem dX12_knows_30 : decode cX12_knows 30 = .ok (.iconst 1, 1) := zk_of (zk_r (zk_l (zk_r (zk_r (zk_r zdX12_knows_60)))))
theorem dX12_knows_31 : decode cX12_knows 31 = .ok (.isub, 1) := zk_of (zk_l (zk_r (zk_r (zk_r (zk_r zdX12_knows_60)))))
theorem dX12_knows_32 : decode cX12_knows 32 = .ok (.invokestatic 155, 3) := zk_of (zk_r (zk_r (zk_r (zk_r (zk_r zdX12_knows_60)))))
set_option maxRecDepth 20000 in
theorem ggX12_knows_X12_passes : GoodIn wsX12_knows wsX12_passes := ggi (fun w h => List.mem_cons_of_mem _ (List.mem_append_left _ (List.mem_append_right _ (List.mem_append_left _ h)))) gs_X12_passes
set_option maxRecDepth 20000 in
theorem gX12_knows_X12_passes : GoodIn wsX12_knows (wsV RX12 463 RX12 yX12_passes wsX12_passes) := goodIn_app (goodIn_of _ (by decide +kernel)) ggX12_knows_X12_passes
set_option maxRecDepth 20000 in
theorem ggX12_knows_X12_isIn : GoodIn wsX12_knows wsX12_isIn := ggi (fun w h => List.mem_cons_of_mem _ (List.mem_append_left _ (List.mem_append_right _ (List.mem_append_right _ (List.mem_append_left _ h))))) gs_X12_isIn
set_option maxRecDepth 20000 in
theorem gX12_knows_X12_isIn : GoodIn wsX12_knows (va_wsS RX12 155 yX12_isIn wsX12_isIn) := goodIn_app (goodIn_of _ (by decide +kernel)) ggX12_knows_X12_isIn
theorem zdX12_knows_35 : (and (and (and (and (and (zk cX12_knows 35 (.ifCond .eq 16) 3) (zk cX12_knows 51 (.iconst (-1)) 1)) (and (zk cX12_knows 52 (.ireturn) 1) (zk cX12_knows 38 (.iload 4) 2))) (and (and (zk cX12_knows 40 (.iconst 0) 1) (zk cX12_knows 41 (.aload_n 0) 1)) (and (zk cX12_knows 42 (.getfield 159) 3) (zk cX12_knows 45 (.invokestatic 155) 3)))) (and (and (and (zk cX12_knows 48 (.ifCond .ne 5) 3) (zk cX12_knows 53 (.aload_n 0) 1)) (and (zk cX12_knows 54 (.invokevirtual 460) 3) (zk cX12_knows 57 (.iconst 0) 1))) (and (and (zk cX12_knows 58 (.istore 5) 2) (zk cX12_knows 0 (.aload_n 0) 1)) (zk cX12_knows 1 (.iconst 0) 1)))) (and (and (and (and (zk cX12_knows 2 (.putfield 151) 3) (zk cX12_knows 5 (.aload_n 0) 1)) (and (zk cX12_knows 6 (.iload_n 1) 1) (zk cX12_knows 7 (.invokevirtual 442) 3))) (and (and (zk cX12_knows 10 (.ifCond .eq 41) 3) (zk cX12_knows 13 (.iload_n 3) 1)) (zk cX12_knows 14 (.iconst 0) 1))) (and (and (and (zk cX12_knows 15 (.iload_n 2) 1) (zk cX12_knows 16 (.ifCond .eq 10) 3)) (and (zk cX12_knows 26 (.aload_n 0) 1) (zk cX12_knows 27 (.getfield 448) 3))) (and (and (zk cX12_knows 19 (.aload_n 0) 1) (zk cX12_knows 20 (.getfield 445) 3)) (zk cX12_knows 23 (.goto 7) 3))))) = true := by decide +kernel
theorem dX12_knows_35 : decode cX12_knows 35 = .ok (.ifCond .eq 16, 3) := zk_of (zk_l (zk_l (zk_l (zk_l (zk_l zdX12_knows_35)))))
theorem dX12_knows_51 : decode cX12_knows 51 = .ok (.iconst (-1), 1) := zk_of (zk_r (zk_l (zk_l (zk_l (zk_l zdX12_knows_35)))))
theorem dX12_knows_52 : decode cX12_knows 52 = .ok (.ireturn, 1) := zk_of (zk_l (zk_r (zk_l (zk_l (zk_l zdX12_knows_35)))))
theorem dX12_knows_38 : decode cX12_knows 38 = .ok (.iload 4, 2) := zk_of (zk_r (zk_r (zk_l (zk_l (zk_l zdX12_knows_35)))))
theorem dX12_knows_40 : decode cX12_knows 40 = .ok (.iconst 0, 1) := zk_of (zk_l (zk_l (zk_r (zk_l (zk_l zdX12_knows_35)))))
theorem dX12_knows_41 : decode cX12_knows 41 = .ok (.aload_n 0, 1) := zk_of (zk_r (zk_l (zk_r (zk_l (zk_l zdX12_knows_35)))))
theorem dX12_knows_42 : decode cX12_knows 42 = .ok (.getfield 159, 3) := zk_of (zk_l (zk_r (zk_r (zk_l (zk_l zdX12_knows_35)))))
theorem dX12_knows_45 : decode cX12_knows 45 = .ok (.invokestatic 155, 3) := zk_of (zk_r (zk_r (zk_r (zk_l (zk_l zdX12_knows_35)))))
theorem dX12_knows_48 : decode cX12_knows 48 = .ok (.ifCond .ne 5, 3) := zk_of (zk_l (zk_l (zk_l (zk_r (zk_l zdX12_knows_35)))))
theorem dX12_knows_53 : decode cX12_knows 53 = .ok (.aload_n 0, 1) := zk_of (zk_r (zk_l (zk_l (zk_r (zk_l zdX12_knows_35)))))
theorem dX12_knows_54 : decode cX12_knows 54 = .ok (.invokevirtual 460, 3) := zk_of (zk_l (zk_r (zk_l (zk_r (zk_l zdX12_knows_35)))))
theorem dX12_knows_57 : decode cX12_knows 57 = .ok (.iconst 0, 1) := zk_of (zk_r (zk_r (zk_l (zk_r (zk_l zdX12_knows_35)))))
theorem dX12_knows_58 : decode cX12_knows 58 = .ok (.istore 5, 2) := zk_of (zk_l (zk_l (zk_r (zk_r (zk_l zdX12_knows_35)))))
theorem dX12_knows_0 : decode cX12_knows 0 = .ok (.aload_n 0, 1) := zk_of (zk_r (zk_l (zk_r (zk_r (zk_l zdX12_knows_35)))))
theorem dX12_knows_1 : decode cX12_knows 1 = .ok (.iconst 0, 1) := zk_of (zk_r (zk_r (zk_r (zk_l zdX12_knows_35))))
theorem dX12_knows_2 : decode cX12_knows 2 = .ok (.putfield 151, 3) := zk_of (zk_l (zk_l (zk_l (zk_l (zk_r zdX12_knows_35)))))
theorem dX12_knows_5 : decode cX12_knows 5 = .ok (.aload_n 0, 1) := zk_of (zk_r (zk_l (zk_l (zk_l (zk_r zdX12_knows_35)))))
theorem dX12_knows_6 : decode cX12_knows 6 = .ok (.iload_n 1, 1) := zk_of (zk_l (zk_r (zk_l (zk_l (zk_r zdX12_knows_35)))))
theorem dX12_knows_7 : decode cX12_knows 7 = .ok (.invokevirtual 442, 3) := zk_of (zk_r (zk_r (zk_l (zk_l (zk_r zdX12_knows_35)))))
theorem dX12_knows_10 : decode cX12_knows 10 = .ok (.ifCond .eq 41, 3) := zk_of (zk_l (zk_l (zk_r (zk_l (zk_r zdX12_knows_35)))))
theorem dX12_knows_13 : decode cX12_knows 13 = .ok (.iload_n 3, 1) := zk_of (zk_r (zk_l (zk_r (zk_l (zk_r zdX12_knows_35)))))
theorem dX12_knows_14 : decode cX12_knows 14 = .ok (.iconst 0, 1) := zk_of (zk_r (zk_r (zk_l (zk_r zdX12_knows_35))))
theorem dX12_knows_15 : decode cX12_knows 15 = .ok (.iload_n 2, 1) := zk_of (zk_l (zk_l (zk_l (zk_r (zk_r zdX12_knows_35)))))
theorem dX12_knows_16 : decode cX12_knows 16 = .ok (.ifCond .eq 10, 3) := zk_of (zk_r (zk_l (zk_l (zk_r (zk_r zdX12_knows_35)))))
theorem dX12_knows_26 : decode cX12_knows 26 = .ok (.aload_n 0, 1) := zk_of (zk_l (zk_r (zk_l (zk_r (zk_r zdX12_knows_35)))))
theorem dX12_knows_27 : decode cX12_knows 27 = .ok (.getfield 448, 3) := zk_of (zk_r (zk_r (zk_l (zk_r (zk_r zdX12_knows_35)))))
theorem dX12_knows_19 : decode cX12_knows 19 = .ok (.aload_n 0, 1) := zk_of (zk_l (zk_l (zk_r (zk_r (zk_r zdX12_knows_35)))))
theorem dX12_knows_20 : decode cX12_knows 20 = .ok (.getfield 445, 3) := zk_of (zk_r (zk_l (zk_r (zk_r (zk_r zdX12_knows_35)))))
theorem dX12_knows_23 : decode cX12_knows 23 = .ok (.goto 7, 3) := zk_of (zk_r (zk_r (zk_r (zk_r zdX12_knows_35))))
set_option maxRecDepth 20000 in
theorem ggX12_knows_X12_nobodyKnows : GoodIn wsX12_knows wsX12_nobodyKnows := ggi (fun w h => List.mem_cons_of_mem _ (List.mem_append_left _ (List.mem_append_right _ (List.mem_append_right _ (List.mem_append_right _ (List.mem_append_left _ h)))))) gs_X12_nobodyKnows
set_option maxRecDepth 20000 in
theorem gX12_knows_X12_nobodyKnows : GoodIn wsX12_knows (wsV RX12 460 RX12 yX12_nobodyKnows wsX12_nobodyKnows) := goodIn_app (goodIn_of _ (by decide +kernel)) ggX12_knows_X12_nobodyKnows
set_option maxRecDepth 20000 in
theorem ggX12_knows_X12_isHouse : GoodIn wsX12_knows wsX12_isHouse := ggi (fun w h => List.mem_cons_of_mem _ (List.mem_append_left _ (List.mem_append_right _ (List.mem_append_right _ (List.mem_append_right _ (List.mem_append_right _ h)))))) gs_X12_isHouse
set_option maxRecDepth 20000 in
theorem gX12_knows_X12_isHouse : GoodIn wsX12_knows (wsV RX12 442 RX12 yX12_isHouse wsX12_isHouse) := goodIn_app (goodIn_of _ (by decide +kernel)) ggX12_knows_X12_isHouse
/-- HissHornModel.knows(IZII)I of cell 0 -/
def rmX12_knows_0 : Room := { frames := 3, cells := 0, slots := 0, locals := 68 }
theorem hX12_knows_0_X12 : ∀ w ∈ u_ws RX12 TX12 69, w ∈ wsX12_knows := fun w h => (List.mem_cons_of_mem _ (List.mem_append_right _ h))
theorem mX12_knows_0_1 : Cond.fieldLink RX12 151 "HissHornModel" "thrown" "I" ∈ wsX12_knows := (List.mem_cons_of_mem _ (List.mem_append_left _ (List.mem_append_left _ (List.mem_of_getElem? (i := 12) rfl))))
theorem mX12_knows_0_2 : Cond.fieldLink RX12 448 "HissHornModel" "prints" "I" ∈ wsX12_knows := (List.mem_cons_of_mem _ (List.mem_append_left _ (List.mem_append_left _ (List.mem_of_getElem? (i := 13) rfl))))
theorem mX12_knows_0_3 : Cond.fieldLink RX12 159 "HissHornModel" "now" "I" ∈ wsX12_knows := (List.mem_cons_of_mem _ (List.mem_append_left _ (List.mem_append_left _ (List.mem_of_getElem? (i := 14) rfl))))
theorem mX12_knows_0_4 : Cond.fieldLink RX12 451 "HissHornModel" "letterMany" "I" ∈ wsX12_knows := (List.mem_cons_of_mem _ (List.mem_append_left _ (List.mem_append_left _ (List.mem_of_getElem? (i := 15) rfl))))
def LX12_knows_0_60 (k83 : Int32 → Int32 → Int32 → SX → Option (Int32 × SX)) : Nat → Int32 → Int32 → Int32 → Int32 → Int32 → SX → Option (Int32 × SX)
  | 0, _, _, _, _, _, _ => none
  | n + 1, z1, z2, z3, z4, z5, u => (if z4 < z5 then (k83 z1 z2 z3 u) else ((fX12_passes_0 z5 (u.1 25) u).bind fun q => match q with | (r15, u16) => ((LX12_knows_0_60 k83 n) z1 z2 z3 z4 (z5 + 1) u16)))
theorem mX12_knows_0_5 : Cond.fieldLink RX12 145 "HissHornModel" "known" "[Z" ∈ wsX12_knows := (List.mem_cons_of_mem _ (List.mem_append_left _ (List.mem_append_left _ (List.mem_of_getElem? (i := 16) rfl))))
def GX12_knows_0_103 (y0 : Int32) (y1 : Int32) (u : SX) : Option (Int32 × SX) := (gd (inb (y1 + y0) 480) (if (u.2.1 42 (y1 + y0).toNatClampNeg) = 0 then (some (0, u)) else (some (1, u))))
def GX12_knows_0_83 (z1 : Int32) (z2 : Int32) (z3 : Int32) (u : SX) : Option (Int32 × SX) := (if z2 = 0 then (GX12_knows_0_103 z3 (60 * z1) u) else (GX12_knows_0_103 (40 + z3) (60 * z1) u))
def GX12_knows_0_30 (z1 : Int32) (z2 : Int32) (z3 : Int32) (z4 : Int32) (y0 : Int32) (y1 : Int32) (y2 : Int32) (u : SX) : Option (Int32 × SX) := ((fX12_isIn y2 y1 (y0 - 1)).bind fun r6 => (if r6 = 0 then (some ((-1), u)) else ((fX12_isIn z4 0 (u.1 1)).bind fun r9 => (if r9 = 0 then (some ((-1), u)) else ((fX12_nobodyKnows_0  u).bind fun q => match q with | (r12, u13) => (LX12_knows_0_60 GX12_knows_0_83 5000 z1 z2 z3 z4 0 u13))))))
theorem mX12_knows_0_6 : Cond.fieldLink RX12 445 "HissHornModel" "papers" "I" ∈ wsX12_knows := (List.mem_cons_of_mem _ (List.mem_append_left _ (List.mem_append_left _ (List.mem_of_getElem? (i := 17) rfl))))
def fX12_knows_0 (x1 : Int32) (x2 : Int32) (x3 : Int32) (x4 : Int32) (u : SX) : Option (Int32 × SX) := (lt (sI u 0 0) fun u1 => ((fX12_isHouse_0 x1 u1).bind fun q => match q with | (r3, u4) => (if r3 = 0 then (some ((-1), u4)) else (if x2 = 0 then (GX12_knows_0_30 x1 x2 x3 x4 (u4.1 23) 0 x3 u4) else (GX12_knows_0_30 x1 x2 x3 x4 (u4.1 24) 0 x3 u4)))))
set_option maxHeartbeats 4000000 in
set_option maxRecDepth 100000 in
theorem wLX12_knows_0_60 {p : Program} {l : Launch} {e : Env} {s : State} {m : MethodId} {args : Array Value} {below : List Frame} {meth : Method} {c : Code} {D : va_G} {cy : Nat → ClassId} {ad st : Nat → Nat} (C : Cx RX12 cX12_knows 6 (some .int) wsX12_knows p s m args meth c) (hK : Ky D [(cy 0, .int), (cy 1, .long), (cy 2, .boolean), (cy 3, .byte), (cy 4, .object "HissHorn$Text")] st s) (hJ : JM ad st) {r : Int32} {u' : SX} {k83 : Int32 → Int32 → Int32 → SX → Option (Int32 × SX)} (hk83 : ∀ (z1 : Int32) (z2 : Int32) (z3 : Int32) (u : SX) (H : Heap) (locs : List Loc) (ls : Array Slot), k83 z1 z2 z3 u = some (r, u') → va_P D vwCl (VM cy ad st u) H → va_S (Ax (AM ad) s.heap.size) s.heap H locs → lv_has ls 6 [(0, .ref (ad 0)), (1, .int z1), (2, .int z2), (3, .int z3)] → W p l e rmX12_knows_0 s m args below meth c H locs 0 0 (MQ below (Qi D (VM cy ad st) (AM ad) s.heap.size r u') args s 0 0 (Ax (AM ad) s.heap.size)) (F0 m 83 ls [])) : ∀ (n : Nat) (z1 : Int32) (z2 : Int32) (z3 : Int32) (z4 : Int32) (z5 : Int32) (u : SX) (H : Heap) (locs : List Loc) (ls : Array Slot), LX12_knows_0_60 k83 n z1 z2 z3 z4 z5 u = some (r, u') → va_P D vwCl (VM cy ad st u) H → va_S (Ax (AM ad) s.heap.size) s.heap H locs → lv_has ls 6 [(0, .ref (ad 0)), (1, .int z1), (2, .int z2), (3, .int z3), (4, .int z4), (5, .int z5)] → W p l e rmX12_knows_0 s m args below meth c H locs 0 0 (MQ below (Qi D (VM cy ad st) (AM ad) s.heap.size r u') args s 0 0 (Ax (AM ad) s.heap.size)) (F0 m 60 ls []) := by
  intro n
  induction n with
  | zero =>
    intro z1 z2 z3 z4 z5 u H locs ls h
    exact absurd h (by intro q; cases q)
  | succ n ih =>
    intro z1 z2 z3 z4 z5 u H locs ls h hP hS hl
    rw [LX12_knows_0_60] at h
    refine lv_iload C.1 C.2.1 dX12_knows_60 (lv_at hl 5 rfl) ?_
    refine lv_iload C.1 C.2.1 dX12_knows_62 (lv_at hl 4 rfl) ?_
    refine lv_icmp_gt (tgt := 83) C.1 C.2.1 dX12_knows_64 (by decide) (fun c64 => ?_) (fun c64 => ?_)
    · rw [if_pos c64] at h
      exact hk83 _ _ _ _ _ _ _ h hP hS (lv_sub hl [0, 1, 2, 3] rfl)
    · rw [if_neg c64] at h
      refine lv_aload_n C.1 C.2.1 dX12_knows_67 rfl (lv_at hl 0 rfl) ?_
      refine lv_iload C.1 C.2.1 dX12_knows_68 (lv_at hl 5 rfl) ?_
      refine lv_aload_n C.1 C.2.1 dX12_knows_70 rfl (lv_at hl 0 rfl) ?_
      refine gM_0_letterMany C hX12_knows_0_X12 hK hP mX12_knows_0_4 dX12_knows_71 ?_
      obtain ⟨⟨r15, u16⟩, hc17, h⟩ := bd_some h
      try dsimp only at h
      refine cg_v (As := [.int z5, .int (u.1 25)]) (rest := []) (AM_ge hJ) C hK hP hS (metX12_passes_0 l D cy ad st hJ _ z5 (u.1 25) hc17) (cwV 2 C.2.2.2.2.2.1 gX12_knows_X12_passes rfl rfl rfl (by decide +kernel) ⟨(Nat.le_of_ble_eq_true rfl), (Nat.le_of_ble_eq_true rfl)⟩) 0 12 rfl rfl rfl hl.1 rfl (Nat.le_of_ble_eq_true rfl) dX12_knows_74 ⟨Nat.zero_le _, Nat.zero_le _⟩ (fun H locs hP hS => ?_)
      refine lv_iinc (v := z5 + 1) (lv' := [(5, .int (z5 + 1)), (0, .ref (ad 0)), (1, .int z1), (2, .int z2), (3, .int z3), (4, .int z4)]) C.1 C.2.1 dX12_knows_77 hl (k := 5) rfl rfl (by decide) rfl (fun ls hl => ?_)
      replace hl := lv_sub (l' := [(0, .ref (ad 0)), (1, .int z1), (2, .int z2), (3, .int z3), (4, .int z4), (5, .int (z5 + 1))]) hl [1, 2, 3, 4, 5, 0] rfl
      refine lv_goto (tgt := 60) C.1 C.2.1 dX12_knows_80 (by decide) ?_
      exact ih _ _ _ _ _ _ _ _ _ h hP hS hl
set_option maxHeartbeats 4000000 in
set_option maxRecDepth 100000 in
theorem wGX12_knows_0_103 {p : Program} {l : Launch} {e : Env} {s : State} {m : MethodId} {args : Array Value} {below : List Frame} {meth : Method} {c : Code} {D : va_G} {cy : Nat → ClassId} {ad st : Nat → Nat} (C : Cx RX12 cX12_knows 6 (some .int) wsX12_knows p s m args meth c) (hK : Ky D [(cy 0, .int), (cy 1, .long), (cy 2, .boolean), (cy 3, .byte), (cy 4, .object "HissHorn$Text")] st s) (hJ : JM ad st) {r : Int32} {u' : SX}   (y0 : Int32) (y1 : Int32) (u : SX) (H : Heap) (locs : List Loc) (ls : Array Slot) (h : GX12_knows_0_103 y0 y1 u = some (r, u')) (hP : va_P D vwCl (VM cy ad st u) H) (hS : va_S (Ax (AM ad) s.heap.size) s.heap H locs) (hl : lv_has ls 6 []) : W p l e rmX12_knows_0 s m args below meth c H locs 0 0 (MQ below (Qi D (VM cy ad st) (AM ad) s.heap.size r u') args s 0 0 (Ax (AM ad) s.heap.size)) (F0 m 103 ls [.int y0, .int y1, .ref (ad 42)]) := by
  unfold GX12_knows_0_103 at h
  refine lv_iadd C.1 C.2.1 dX12_knows_103 ?_
  obtain ⟨hg18, h⟩ := gd_some h
  refine lM_42 C hK hP hg18 dX12_knows_104 ?_
  refine lv_if_eq (tgt := 112) C.1 C.2.1 dX12_knows_105 (by decide) (fun c105 => ?_) (fun c105 => ?_)
  · rw [if_pos c105] at h
    refine lv_iconst (v := 0) C.1 C.2.1 dX12_knows_112 (by decide) ?_
    cases h
    exact rt_i C hP hS dX12_knows_113
  · rw [if_neg c105] at h
    refine lv_iconst (v := 1) C.1 C.2.1 dX12_knows_108 (by decide) ?_
    refine lv_goto (tgt := 113) C.1 C.2.1 dX12_knows_109 (by decide) ?_
    cases h
    exact rt_i C hP hS dX12_knows_113
set_option maxHeartbeats 4000000 in
set_option maxRecDepth 100000 in
theorem wGX12_knows_0_83 {p : Program} {l : Launch} {e : Env} {s : State} {m : MethodId} {args : Array Value} {below : List Frame} {meth : Method} {c : Code} {D : va_G} {cy : Nat → ClassId} {ad st : Nat → Nat} (C : Cx RX12 cX12_knows 6 (some .int) wsX12_knows p s m args meth c) (hK : Ky D [(cy 0, .int), (cy 1, .long), (cy 2, .boolean), (cy 3, .byte), (cy 4, .object "HissHorn$Text")] st s) (hJ : JM ad st) {r : Int32} {u' : SX}   (z1 : Int32) (z2 : Int32) (z3 : Int32) (u : SX) (H : Heap) (locs : List Loc) (ls : Array Slot) (h : GX12_knows_0_83 z1 z2 z3 u = some (r, u')) (hP : va_P D vwCl (VM cy ad st u) H) (hS : va_S (Ax (AM ad) s.heap.size) s.heap H locs) (hl : lv_has ls 6 [(0, .ref (ad 0)), (1, .int z1), (2, .int z2), (3, .int z3)]) : W p l e rmX12_knows_0 s m args below meth c H locs 0 0 (MQ below (Qi D (VM cy ad st) (AM ad) s.heap.size r u') args s 0 0 (Ax (AM ad) s.heap.size)) (F0 m 83 ls []) := by
  unfold GX12_knows_0_83 at h
  refine lv_aload_n C.1 C.2.1 dX12_knows_83 rfl (lv_at hl 0 rfl) ?_
  refine gM_0_known C hX12_knows_0_X12 hK hP mX12_knows_0_5 dX12_knows_84 ?_
  refine lv_bipush (v := 60) C.1 C.2.1 dX12_knows_87 (by decide) ?_
  refine lv_iload_n C.1 C.2.1 dX12_knows_89 rfl (lv_at hl 1 rfl) ?_
  refine lv_imul C.1 C.2.1 dX12_knows_90 ?_
  refine lv_iload_n C.1 C.2.1 dX12_knows_91 rfl (lv_at hl 2 rfl) ?_
  refine lv_if_eq (tgt := 102) C.1 C.2.1 dX12_knows_92 (by decide) (fun c92 => ?_) (fun c92 => ?_)
  · rw [if_pos c92] at h
    refine lv_iload_n C.1 C.2.1 dX12_knows_102 rfl (lv_at hl 3 rfl) ?_
    exact wGX12_knows_0_103 C hK hJ _ _ _ _ _ _ h hP hS (lv_sub hl [] rfl)
  · rw [if_neg c92] at h
    refine lv_bipush (v := 40) C.1 C.2.1 dX12_knows_95 (by decide) ?_
    refine lv_iload_n C.1 C.2.1 dX12_knows_97 rfl (lv_at hl 3 rfl) ?_
    refine lv_iadd C.1 C.2.1 dX12_knows_98 ?_
    refine lv_goto (tgt := 103) C.1 C.2.1 dX12_knows_99 (by decide) ?_
    exact wGX12_knows_0_103 C hK hJ _ _ _ _ _ _ h hP hS (lv_sub hl [] rfl)
set_option maxHeartbeats 4000000 in
set_option maxRecDepth 100000 in
theorem wGX12_knows_0_30 {p : Program} {l : Launch} {e : Env} {s : State} {m : MethodId} {args : Array Value} {below : List Frame} {meth : Method} {c : Code} {D : va_G} {cy : Nat → ClassId} {ad st : Nat → Nat} (C : Cx RX12 cX12_knows 6 (some .int) wsX12_knows p s m args meth c) (hK : Ky D [(cy 0, .int), (cy 1, .long), (cy 2, .boolean), (cy 3, .byte), (cy 4, .object "HissHorn$Text")] st s) (hJ : JM ad st) {r : Int32} {u' : SX}   (z1 : Int32) (z2 : Int32) (z3 : Int32) (z4 : Int32) (y0 : Int32) (y1 : Int32) (y2 : Int32) (u : SX) (H : Heap) (locs : List Loc) (ls : Array Slot) (h : GX12_knows_0_30 z1 z2 z3 z4 y0 y1 y2 u = some (r, u')) (hP : va_P D vwCl (VM cy ad st u) H) (hS : va_S (Ax (AM ad) s.heap.size) s.heap H locs) (hl : lv_has ls 6 [(0, .ref (ad 0)), (1, .int z1), (2, .int z2), (3, .int z3), (4, .int z4)]) : W p l e rmX12_knows_0 s m args below meth c H locs 0 0 (MQ below (Qi D (VM cy ad st) (AM ad) s.heap.size r u') args s 0 0 (Ax (AM ad) s.heap.size)) (F0 m 30 ls [.int y0, .int y1, .int y2]) := by
  unfold GX12_knows_0_30 at h
  refine lv_iconst (v := 1) C.1 C.2.1 dX12_knows_30 (by decide) ?_
  refine lv_isub C.1 C.2.1 dX12_knows_31 ?_
  obtain ⟨r6, hc8, h⟩ := bd_some h
  refine cs_i (As := [.int y2, .int y1, .int (y0 - 1)]) (rest := []) (AM_ge hJ) C hK hP hS (metX12_isIn l D cy st _ y2 y1 (y0 - 1) hc8) (va_cwS 3 C.2.2.2.2.2.1 gX12_knows_X12_isIn rfl rfl rfl (by decide +kernel) ⟨(Nat.le_of_ble_eq_true rfl), (Nat.le_of_ble_eq_true rfl)⟩) rfl hl.1 rfl (Nat.le_of_ble_eq_true rfl) dX12_knows_32 ⟨Nat.zero_le _, Nat.zero_le _⟩ (fun H locs hP hS => ?_)
  refine lv_if_eq (tgt := 51) C.1 C.2.1 dX12_knows_35 (by decide) (fun c35 => ?_) (fun c35 => ?_)
  · rw [if_pos c35] at h
    refine lv_iconst (v := (-1)) C.1 C.2.1 dX12_knows_51 (by decide) ?_
    cases h
    exact rt_i C hP hS dX12_knows_52
  · rw [if_neg c35] at h
    refine lv_iload C.1 C.2.1 dX12_knows_38 (lv_at hl 4 rfl) ?_
    refine lv_iconst (v := 0) C.1 C.2.1 dX12_knows_40 (by decide) ?_
    refine lv_aload_n C.1 C.2.1 dX12_knows_41 rfl (lv_at hl 0 rfl) ?_
    refine gM_0_now C hX12_knows_0_X12 hK hP mX12_knows_0_3 dX12_knows_42 ?_
    obtain ⟨r9, hc11, h⟩ := bd_some h
    refine cs_i (As := [.int z4, .int 0, .int (u.1 1)]) (rest := []) (AM_ge hJ) C hK hP hS (metX12_isIn l D cy st _ z4 0 (u.1 1) hc11) (va_cwS 3 C.2.2.2.2.2.1 gX12_knows_X12_isIn rfl rfl rfl (by decide +kernel) ⟨(Nat.le_of_ble_eq_true rfl), (Nat.le_of_ble_eq_true rfl)⟩) rfl hl.1 rfl (Nat.le_of_ble_eq_true rfl) dX12_knows_45 ⟨Nat.zero_le _, Nat.zero_le _⟩ (fun H locs hP hS => ?_)
    refine lv_if_ne (tgt := 53) C.1 C.2.1 dX12_knows_48 (by decide) (fun c48 => ?_) (fun c48 => ?_)
    · rw [if_neg c48] at h
      refine lv_aload_n C.1 C.2.1 dX12_knows_53 rfl (lv_at hl 0 rfl) ?_
      obtain ⟨⟨r12, u13⟩, hc14, h⟩ := bd_some h
      try dsimp only at h
      refine cg_v (As := []) (rest := []) (AM_ge hJ) C hK hP hS (metX12_nobodyKnows_0 l D cy ad st hJ _  hc14) (cwV 0 C.2.2.2.2.2.1 gX12_knows_X12_nobodyKnows rfl rfl rfl (by decide +kernel) ⟨(Nat.le_of_ble_eq_true rfl), (Nat.le_of_ble_eq_true rfl)⟩) 0 12 rfl rfl rfl hl.1 rfl (Nat.le_of_ble_eq_true rfl) dX12_knows_54 ⟨Nat.zero_le _, Nat.zero_le _⟩ (fun H locs hP hS => ?_)
      refine lv_iconst (v := 0) C.1 C.2.1 dX12_knows_57 (by decide) ?_
      refine lv_istore (lv' := [(5, .int 0), (0, .ref (ad 0)), (1, .int z1), (2, .int z2), (3, .int z3), (4, .int z4)]) C.1 C.2.1 dX12_knows_58 hl (by decide) rfl (fun ls hl => ?_)
      replace hl := lv_sub (l' := [(0, .ref (ad 0)), (1, .int z1), (2, .int z2), (3, .int z3), (4, .int z4), (5, .int 0)]) hl [1, 2, 3, 4, 5, 0] rfl
      exact wLX12_knows_0_60 C hK hJ (wGX12_knows_0_83 C hK hJ ) 5000 _ _ _ _ _ _ _ _ _ h hP hS hl
    · rw [if_pos c48] at h
      refine lv_iconst (v := (-1)) C.1 C.2.1 dX12_knows_51 (by decide) ?_
      cases h
      exact rt_i C hP hS dX12_knows_52
set_option maxHeartbeats 4000000 in
set_option maxRecDepth 100000 in
theorem wX12_knows_0 {p : Program} {l : Launch} {e : Env} {s : State} {m : MethodId} {args : Array Value} {below : List Frame} {meth : Method} {c : Code} {D : va_G} {cy : Nat → ClassId} {ad st : Nat → Nat} (C : Cx RX12 cX12_knows 6 (some .int) wsX12_knows p s m args meth c) (hK : Ky D [(cy 0, .int), (cy 1, .long), (cy 2, .boolean), (cy 3, .byte), (cy 4, .object "HissHorn$Text")] st s) (hJ : JM ad st) (x1 : Int32) (x2 : Int32) (x3 : Int32) (x4 : Int32) {u : SX} {r : Int32} {u' : SX} {H : Heap} {locs : List Loc} {ls : Array Slot} (h : fX12_knows_0 x1 x2 x3 x4 u = some (r, u')) (hP : va_P D vwCl (VM cy ad st u) H) (hS : va_S (Ax (AM ad) s.heap.size) s.heap H locs) (hl : lv_has ls 6 [(0, .ref (ad 0)), (1, .int x1), (2, .int x2), (3, .int x3), (4, .int x4)]) : W p l e rmX12_knows_0 s m args below meth c H locs 0 0 (MQ below (Qi D (VM cy ad st) (AM ad) s.heap.size r u') args s 0 0 (Ax (AM ad) s.heap.size)) (F0 m 0 ls []) := by
  unfold fX12_knows_0 at h
  refine lv_aload_n C.1 C.2.1 dX12_knows_0 rfl (lv_at hl 0 rfl) ?_
  refine lv_iconst (v := 0) C.1 C.2.1 dX12_knows_1 (by decide) ?_
  refine pM_0_thrown C hX12_knows_0_X12 hK hP hJ hS mX12_knows_0_1 dX12_knows_2 (fun H locs hP hS => ?_)
  obtain ⟨u1, hu2, h⟩ := lt_some h
  rw [← hu2] at hP
  refine lv_aload_n C.1 C.2.1 dX12_knows_5 rfl (lv_at hl 0 rfl) ?_
  refine lv_iload_n C.1 C.2.1 dX12_knows_6 rfl (lv_at hl 1 rfl) ?_
  obtain ⟨⟨r3, u4⟩, hc5, h⟩ := bd_some h
  try dsimp only at h
  refine cg_i (As := [.int x1]) (rest := []) (AM_ge hJ) C hK hP hS (metX12_isHouse_0 l D cy ad st hJ _ x1 hc5) (cwV 1 C.2.2.2.2.2.1 gX12_knows_X12_isHouse rfl rfl rfl (by decide +kernel) ⟨(Nat.le_of_ble_eq_true rfl), (Nat.le_of_ble_eq_true rfl)⟩) 0 12 rfl rfl rfl hl.1 rfl (Nat.le_of_ble_eq_true rfl) dX12_knows_7 ⟨Nat.zero_le _, Nat.zero_le _⟩ (fun H locs hP hS => ?_)
  refine lv_if_eq (tgt := 51) C.1 C.2.1 dX12_knows_10 (by decide) (fun c10 => ?_) (fun c10 => ?_)
  · rw [if_pos c10] at h
    refine lv_iconst (v := (-1)) C.1 C.2.1 dX12_knows_51 (by decide) ?_
    cases h
    exact rt_i C hP hS dX12_knows_52
  · rw [if_neg c10] at h
    refine lv_iload_n C.1 C.2.1 dX12_knows_13 rfl (lv_at hl 3 rfl) ?_
    refine lv_iconst (v := 0) C.1 C.2.1 dX12_knows_14 (by decide) ?_
    refine lv_iload_n C.1 C.2.1 dX12_knows_15 rfl (lv_at hl 2 rfl) ?_
    refine lv_if_eq (tgt := 26) C.1 C.2.1 dX12_knows_16 (by decide) (fun c16 => ?_) (fun c16 => ?_)
    · rw [if_pos c16] at h
      refine lv_aload_n C.1 C.2.1 dX12_knows_26 rfl (lv_at hl 0 rfl) ?_
      refine gM_0_prints C hX12_knows_0_X12 hK hP mX12_knows_0_2 dX12_knows_27 ?_
      exact wGX12_knows_0_30 C hK hJ _ _ _ _ _ _ _ _ _ _ _ h hP hS hl
    · rw [if_neg c16] at h
      refine lv_aload_n C.1 C.2.1 dX12_knows_19 rfl (lv_at hl 0 rfl) ?_
      refine gM_0_papers C hX12_knows_0_X12 hK hP mX12_knows_0_6 dX12_knows_20 ?_
      refine lv_goto (tgt := 30) C.1 C.2.1 dX12_knows_23 (by decide) ?_
      exact wGX12_knows_0_30 C hK hJ _ _ _ _ _ _ _ _ _ _ _ h hP hS hl
theorem metX12_knows_0 (l : Launch) (D : va_G) (cy : Nat → ClassId) (ad st : Nat → Nat) (hJ : JM ad st) (sz : Nat) (x1 : Int32) (x2 : Int32) (x3 : Int32) (x4 : Int32) {u : SX} {r : Int32} {u' : SX} (h : fX12_knows_0 x1 x2 x3 x4 u = some (r, u')) : Met l yX12_knows wsX12_knows rmX12_knows_0 (va_Pc [.ref (ad 0), .int x1, .int x2, .int x3, .int x4] (Px D [(cy 0, .int), (cy 1, .long), (cy 2, .boolean), (cy 3, .byte), (cy 4, .object "HissHorn$Text")] st (VM cy ad st) sz u)) (Qi D (VM cy ad st) (AM ad) sz r u') 0 0 (Ax (AM ad) sz) := by
  refine Met.ofW (cc := cX12_knows) (maxL := 6) (ret := (some .int)) (by decide) rfl ?_
  intro p e s m args below meth c s₁ B hml hv
  obtain ⟨rfl, hsz, hP, hK⟩ := hv
  subst hsz
  have C : Cx RX12 cX12_knows 6 (some .int) wsX12_knows p s m _ meth c := ⟨B.exec, B.bytes, hml, B.returns, findClass_of_methodNamed B.named, atoms_spec (ws := wsX12_knows) B.pre, B.notSynchronized⟩
  have hl := lv_entry ([.ref (ad 0), .int x1, .int x2, .int x3, .int x4]) (n := 6) (Nat.le_of_ble_eq_true rfl)
  rw [lg_entry_eq]
  exact wX12_knows_0 C hK hJ x1 x2 x3 x4 h hP va_S.rf hl

theorem zdX12_meets_105 : (and (and (and (and (and (zk cX12_meets 105 (.iinc 2 1) 3) (zk cX12_meets 108 (.goto (-106)) 3)) (and (zk cX12_meets 99 (.iinc 3 1) 3) (zk cX12_meets 102 (.goto (-63)) 3))) (and (and (zk cX12_meets 39 (.iload_n 3) 1) (zk cX12_meets 40 (.bipush 40) 2)) (and (zk cX12_meets 42 (.aload_n 0) 1) (zk cX12_meets 43 (.getfield 445) 3)))) (and (and (and (zk cX12_meets 46 (.iadd) 1) (zk cX12_meets 47 (.if_icmp .ge 58) 3)) (and (zk cX12_meets 50 (.aload_n 0) 1) (zk cX12_meets 51 (.getfield 145) 3))) (and (and (zk cX12_meets 54 (.bipush 60) 2) (zk cX12_meets 56 (.iload_n 1) 1)) (and (zk cX12_meets 57 (.imul) 1) (zk cX12_meets 58 (.iload_n 3) 1))))) (and (and (and (and (zk cX12_meets 59 (.iadd) 1) (zk cX12_meets 60 (.baload) 1)) (and (zk cX12_meets 61 (.ifCond .eq 38) 3) (zk cX12_meets 64 (.aload_n 0) 1))) (and (and (zk cX12_meets 65 (.getfield 127) 3) (zk cX12_meets 68 (.iload_n 2) 1)) (and (zk cX12_meets 69 (.iaload) 1) (zk cX12_meets 70 (.aload_n 0) 1)))) (and (and (and (zk cX12_meets 71 (.getfield 127) 3) (zk cX12_meets 74 (.iload_n 3) 1)) (and (zk cX12_meets 75 (.iaload) 1) (zk cX12_meets 76 (.invokestatic 293) 3))) (and (and (zk cX12_meets 79 (.aload_n 0) 1) (zk cX12_meets 80 (.getfield 130) 3)) (and (zk cX12_meets 83 (.iload_n 2) 1) (zk cX12_meets 84 (.iaload) 1)))))) = true := by decide +kernel
theorem dX12_meets_105 : decode cX12_meets 105 = .ok (.iinc 2 1, 3) := zk_of (zk_l (zk_l (zk_l (zk_l (zk_l zdX12_meets_105)))))
theorem dX12_meets_108 : decode cX12_meets 108 = .ok (.goto (-106), 3) := zk_of (zk_r (zk_l (zk_l (zk_l (zk_l zdX12_meets_105)))))
theorem dX12_meets_99 : decode cX12_meets 99 = .ok (.iinc 3 1, 3) := zk_of (zk_l (zk_r (zk_l (zk_l (zk_l zdX12_meets_105)))))
theorem dX12_meets_102 : decode cX12_meets 102 = .ok (.goto (-63), 3) := zk_of (zk_r (zk_r (zk_l (zk_l (zk_l zdX12_meets_105)))))
theorem dX12_meets_39 : decode cX12_meets 39 = .ok (.iload_n 3, 1) := zk_of (zk_l (zk_l (zk_r (zk_l (zk_l zdX12_meets_105)))))
theorem dX12_meets_40 : decode cX12_meets 40 = .ok (.bipush 40, 2) := zk_of (zk_r (zk_l (zk_r (zk_l (zk_l zdX12_meets_105)))))
theorem dX12_meets_42 : decode cX12_meets 42 = .ok (.aload_n 0, 1) := zk_of (zk_l (zk_r (zk_r (zk_l (zk_l zdX12_meets_105)))))
theorem dX12_meets_43 : decode cX12_meets 43 = .ok (.getfield 445, 3) := zk_of (zk_r (zk_r (zk_r (zk_l (zk_l zdX12_meets_105)))))
theorem dX12_meets_46 : decode cX12_meets 46 = .ok (.iadd, 1) := zk_of (zk_l (zk_l (zk_l (zk_r (zk_l zdX12_meets_105)))))
theorem dX12_meets_47 : decode cX12_meets 47 = .ok (.if_icmp .ge 58, 3) := zk_of (zk_r (zk_l (zk_l (zk_r (zk_l zdX12_meets_105)))))
theorem dX12_meets_50 : decode cX12_meets 50 = .ok (.aload_n 0, 1) := zk_of (zk_l (zk_r (zk_l (zk_r (zk_l zdX12_meets_105)))))
theorem dX12_meets_51 : decode cX12_meets 51 = .ok (.getfield 145, 3) := zk_of (zk_r (zk_r (zk_l (zk_r (zk_l zdX12_meets_105)))))
theorem dX12_meets_54 : decode cX12_meets 54 = .ok (.bipush 60, 2) := zk_of (zk_l (zk_l (zk_r (zk_r (zk_l zdX12_meets_105)))))
theorem dX12_meets_56 : decode cX12_meets 56 = .ok (.iload_n 1, 1) := zk_of (zk_r (zk_l (zk_r (zk_r (zk_l zdX12_meets_105)))))
theorem dX12_meets_57 : decode cX12_meets 57 = .ok (.imul, 1) := zk_of (zk_l (zk_r (zk_r (zk_r (zk_l zdX12_meets_105)))))
theorem dX12_meets_58 : decode cX12_meets 58 = .ok (.iload_n 3, 1) := zk_of (zk_r (zk_r (zk_r (zk_r (zk_l zdX12_meets_105)))))
theorem dX12_meets_59 : decode cX12_meets 59 = .ok (.iadd, 1) := zk_of (zk_l (zk_l (zk_l (zk_l (zk_r zdX12_meets_105)))))
theorem dX12_meets_60 : decode cX12_meets 60 = .ok (.baload, 1) := zk_of (zk_r (zk_l (zk_l (zk_l (zk_r zdX12_meets_105)))))
theorem dX12_meets_61 : decode cX12_meets 61 = .ok (.ifCond .eq 38, 3) := zk_of (zk_l (zk_r (zk_l (zk_l (zk_r zdX12_meets_105)))))
theorem dX12_meets_64 : decode cX12_meets 64 = .ok (.aload_n 0, 1) := zk_of (zk_r (zk_r (zk_l (zk_l (zk_r zdX12_meets_105)))))
theorem dX12_meets_65 : decode cX12_meets 65 = .ok (.getfield 127, 3) := zk_of (zk_l (zk_l (zk_r (zk_l (zk_r zdX12_meets_105)))))
theorem dX12_meets_68 : decode cX12_meets 68 = .ok (.iload_n 2, 1) := zk_of (zk_r (zk_l (zk_r (zk_l (zk_r zdX12_meets_105)))))
theorem dX12_meets_69 : decode cX12_meets 69 = .ok (.iaload, 1) := zk_of (zk_l (zk_r (zk_r (zk_l (zk_r zdX12_meets_105)))))
theorem dX12_meets_70 : decode cX12_meets 70 = .ok (.aload_n 0, 1) := zk_of (zk_r (zk_r (zk_r (zk_l (zk_r zdX12_meets_105)))))
theorem dX12_meets_71 : decode cX12_meets 71 = .ok (.getfield 127, 3) := zk_of (zk_l (zk_l (zk_l (zk_r (zk_r zdX12_meets_105)))))
theorem dX12_meets_74 : decode cX12_meets 74 = .ok (.iload_n 3, 1) := zk_of (zk_r (zk_l (zk_l (zk_r (zk_r zdX12_meets_105)))))
theorem dX12_meets_75 : decode cX12_meets 75 = .ok (.iaload, 1) := zk_of (zk_l (zk_r (zk_l (zk_r (zk_r zdX12_meets_105)))))
theorem dX12_meets_76 : decode cX12_meets 76 = .ok (.invokestatic 293, 3) := zk_of (zk_r (zk_r (zk_l (zk_r (zk_r zdX12_meets_105)))))
theorem dX12_meets_79 : decode cX12_meets 79 = .ok (.aload_n 0, 1) := zk_of (zk_l (zk_l (zk_r (zk_r (zk_r zdX12_meets_105)))))
theorem dX12_meets_80 : decode cX12_meets 80 = .ok (.getfield 130, 3) := zk_of (zk_r (zk_l (zk_r (zk_r (zk_r zdX12_meets_105)))))
theorem dX12_meets_83 : decode cX12_meets 83 = .ok (.iload_n 2, 1) := zk_of (zk_l (zk_r (zk_r (zk_r (zk_r zdX12_meets_105)))))
theorem dX12_meets_84 : decode cX12_meets 84 = .ok (.iaload, 1) := zk_of (zk_r (zk_r (zk_r (zk_r (zk_r zdX12_meets_105)))))
theorem zdX12_meets_85 : (and (and (and (and (and (zk cX12_meets 85 (.aload_n 0) 1) (zk cX12_meets 86 (.getfield 130) 3)) (and (zk cX12_meets 89 (.iload_n 3) 1) (zk cX12_meets 90 (.iaload) 1))) (and (and (zk cX12_meets 91 (.invokestatic 295) 3) (zk cX12_meets 94 (.if_icmp .gt 5) 3)) (and (zk cX12_meets 97 (.iconst 1) 1) (zk cX12_meets 98 (.ireturn) 1)))) (and (and (and (zk cX12_meets 2 (.iload_n 2) 1) (zk cX12_meets 3 (.aload_n 0) 1)) (and (zk cX12_meets 4 (.getfield 448) 3) (zk cX12_meets 7 (.if_icmp .ge 104) 3))) (and (and (zk cX12_meets 111 (.iconst 0) 1) (zk cX12_meets 112 (.ireturn) 1)) (and (zk cX12_meets 10 (.aload_n 0) 1) (zk cX12_meets 11 (.getfield 145) 3))))) (and (and (and (and (zk cX12_meets 14 (.bipush 60) 2) (zk cX12_meets 16 (.iload_n 1) 1)) (and (zk cX12_meets 17 (.imul) 1) (zk cX12_meets 18 (.iload_n 2) 1))) (and (and (zk cX12_meets 19 (.iadd) 1) (zk cX12_meets 20 (.baload) 1)) (and (zk cX12_meets 21 (.ifCond .eq 84) 3) (zk cX12_meets 24 (.aload_n 0) 1)))) (and (and (and (zk cX12_meets 25 (.getfield 127) 3) (zk cX12_meets 28 (.iload_n 2) 1)) (and (zk cX12_meets 29 (.iaload) 1) (zk cX12_meets 30 (.ifCond .gt 6) 3))) (and (and (zk cX12_meets 36 (.bipush 40) 2) (zk cX12_meets 38 (.istore_n 3) 1)) (and (zk cX12_meets 33 (.goto 72) 3) (zk cX12_meets 0 (.iconst 0) 1)))))) = true := by decide +kernel
theorem dX12_meets_85 : decode cX12_meets 85 = .ok (.aload_n 0, 1) := zk_of (zk_l (zk_l (zk_l (zk_l (zk_l zdX12_meets_85)))))
theorem dX12_meets_86 : decode cX12_meets 86 = .ok (.getfield 130, 3) := zk_of (zk_r (zk_l (zk_l (zk_l (zk_l zdX12_meets_85)))))
theorem dX12_meets_89 : decode cX12_meets 89 = .ok (.iload_n 3, 1) := zk_of (zk_l (zk_r (zk_l (zk_l (zk_l zdX12_meets_85)))))
theorem dX12_meets_90 : decode cX12_meets 90 = .ok (.iaload, 1) := zk_of (zk_r (zk_r (zk_l (zk_l (zk_l zdX12_meets_85)))))
theorem dX12_meets_91 : decode cX12_meets 91 = .ok (.invokestatic 295, 3) := zk_of (zk_l (zk_l (zk_r (zk_l (zk_l zdX12_meets_85)))))
theorem dX12_meets_94 : decode cX12_meets 94 = .ok (.if_icmp .gt 5, 3) := zk_of (zk_r (zk_l (zk_r (zk_l (zk_l zdX12_meets_85)))))
theorem dX12_meets_97 : decode cX12_meets 97 = .ok (.iconst 1, 1) := zk_of (zk_l (zk_r (zk_r (zk_l (zk_l zdX12_meets_85)))))
theorem dX12_meets_98 : decode cX12_meets 98 = .ok (.ireturn, 1) := zk_of (zk_r (zk_r (zk_r (zk_l (zk_l zdX12_meets_85)))))
theorem dX12_meets_2 : decode cX12_meets 2 = .ok (.iload_n 2, 1) := zk_of (zk_l (zk_l (zk_l (zk_r (zk_l zdX12_meets_85)))))
theorem dX12_meets_3 : decode cX12_meets 3 = .ok (.aload_n 0, 1) := zk_of (zk_r (zk_l (zk_l (zk_r (zk_l zdX12_meets_85)))))
theorem dX12_meets_4 : decode cX12_meets 4 = .ok (.getfield 448, 3) := zk_of (zk_l (zk_r (zk_l (zk_r (zk_l zdX12_meets_85)))))
theorem dX12_meets_7 : decode cX12_meets 7 = .ok (.if_icmp .ge 104, 3) := zk_of (zk_r (zk_r (zk_l (zk_r (zk_l zdX12_meets_85)))))
theorem dX12_meets_111 : decode cX12_meets 111 = .ok (.iconst 0, 1) := zk_of (zk_l (zk_l (zk_r (zk_r (zk_l zdX12_meets_85)))))
theorem dX12_meets_112 : decode cX12_meets 112 = .ok (.ireturn, 1) := zk_of (zk_r (zk_l (zk_r (zk_r (zk_l zdX12_meets_85)))))
theorem dX12_meets_10 : decode cX12_meets 10 = .ok (.aload_n 0, 1) := zk_of (zk_l (zk_r (zk_r (zk_r (zk_l zdX12_meets_85)))))
theorem dX12_meets_11 : decode cX12_meets 11 = .ok (.getfield 145, 3) := zk_of (zk_r (zk_r (zk_r (zk_r (zk_l zdX12_meets_85)))))
theorem dX12_meets_14 : decode cX12_meets 14 = .ok (.bipush 60, 2) := zk_of (zk_l (zk_l (zk_l (zk_l (zk_r zdX12_meets_85)))))
theorem dX12_meets_16 : decode cX12_meets 16 = .ok (.iload_n 1, 1) := zk_of (zk_r (zk_l (zk_l (zk_l (zk_r zdX12_meets_85)))))
theorem dX12_meets_17 : decode cX12_meets 17 = .ok (.imul, 1) := zk_of (zk_l (zk_r (zk_l (zk_l (zk_r zdX12_meets_85)))))
theorem dX12_meets_18 : decode cX12_meets 18 = .ok (.iload_n 2, 1) := zk_of (zk_r (zk_r (zk_l (zk_l (zk_r zdX12_meets_85)))))
theorem dX12_meets_19 : decode cX12_meets 19 = .ok (.iadd, 1) := zk_of (zk_l (zk_l (zk_r (zk_l (zk_r zdX12_meets_85)))))
theorem dX12_meets_20 : decode cX12_meets 20 = .ok (.baload, 1) := zk_of (zk_r (zk_l (zk_r (zk_l (zk_r zdX12_meets_85)))))
theorem dX12_meets_21 : decode cX12_meets 21 = .ok (.ifCond .eq 84, 3) := zk_of (zk_l (zk_r (zk_r (zk_l (zk_r zdX12_meets_85)))))
theorem dX12_meets_24 : decode cX12_meets 24 = .ok (.aload_n 0, 1) := zk_of (zk_r (zk_r (zk_r (zk_l (zk_r zdX12_meets_85)))))
theorem dX12_meets_25 : decode cX12_meets 25 = .ok (.getfield 127, 3) := zk_of (zk_l (zk_l (zk_l (zk_r (zk_r zdX12_meets_85)))))
theorem dX12_meets_28 : decode cX12_meets 28 = .ok (.iload_n 2, 1) := zk_of (zk_r (zk_l (zk_l (zk_r (zk_r zdX12_meets_85)))))
theorem dX12_meets_29 : decode cX12_meets 29 = .ok (.iaload, 1) := zk_of (zk_l (zk_r (zk_l (zk_r (zk_r zdX12_meets_85)))))
theorem dX12_meets_30 : decode cX12_meets 30 = .ok (.ifCond .gt 6, 3) := zk_of (zk_r (zk_r (zk_l (zk_r (zk_r zdX12_meets_85)))))
theorem dX12_meets_36 : decode cX12_meets 36 = .ok (.bipush 40, 2) := zk_of (zk_l (zk_l (zk_r (zk_r (zk_r zdX12_meets_85)))))
theorem dX12_meets_38 : decode cX12_meets 38 = .ok (.istore_n 3, 1) := zk_of (zk_r (zk_l (zk_r (zk_r (zk_r zdX12_meets_85)))))
theorem dX12_meets_33 : decode cX12_meets 33 = .ok (.goto 72, 3) := zk_of (zk_l (zk_r (zk_r (zk_r (zk_r zdX12_meets_85)))))
theorem dX12_meets_0 : decode cX12_meets 0 = .ok (.iconst 0, 1) := zk_of (zk_r (zk_r (zk_r (zk_r (zk_r zdX12_meets_85)))))
theorem dX12_meets_1 : decode cX12_meets 1 = .ok (.istore_n 2, 1) := by decide +kernel
/-- HissHornModel.meets(I)Z of cell 0 -/
def rmX12_meets_0 : Room := { frames := 1, cells := 0, slots := 0, locals := 14 }
theorem hX12_meets_0_X12 : ∀ w ∈ u_ws RX12 TX12 69, w ∈ wsX12_meets := fun w h => (List.mem_cons_of_mem _ (List.mem_append_right _ h))
theorem mX12_meets_0_1 : Cond.fieldLink RX12 448 "HissHornModel" "prints" "I" ∈ wsX12_meets := (List.mem_cons_of_mem _ (List.mem_append_left _ (List.mem_of_getElem? (i := 0) rfl)))
theorem mX12_meets_0_2 : Cond.fieldLink RX12 145 "HissHornModel" "known" "[Z" ∈ wsX12_meets := (List.mem_cons_of_mem _ (List.mem_append_left _ (List.mem_of_getElem? (i := 1) rfl)))
def GX12_meets_0_105 (k2 : Int32 → Int32 → SX → Option (Int32 × SX)) (z1 : Int32) (z2 : Int32) (u : SX) : Option (Int32 × SX) := (k2 z1 (z2 + 1) u)
theorem mX12_meets_0_3 : Cond.fieldLink RX12 127 "HissHornModel" "printFrom" "[I" ∈ wsX12_meets := (List.mem_cons_of_mem _ (List.mem_append_left _ (List.mem_of_getElem? (i := 2) rfl)))
theorem mX12_meets_0_4 : Cond.fieldLink RX12 445 "HissHornModel" "papers" "I" ∈ wsX12_meets := (List.mem_cons_of_mem _ (List.mem_append_left _ (List.mem_of_getElem? (i := 3) rfl)))
def GX12_meets_0_99 (k39 : Int32 → Int32 → Int32 → SX → Option (Int32 × SX)) (z1 : Int32) (z2 : Int32) (z3 : Int32) (u : SX) : Option (Int32 × SX) := (k39 z1 z2 (z3 + 1) u)
theorem mX12_meets_0_5 : Cond.methodLink RX12 293 Lib.Math.max.name ∈ wsX12_meets := (List.mem_cons_of_mem _ (List.mem_append_left _ (List.mem_of_getElem? (i := 4) rfl)))
theorem mX12_meets_0_6 : Cond.static Lib.Math.max.name ∈ wsX12_meets := (List.mem_cons_of_mem _ (List.mem_append_left _ (List.mem_of_getElem? (i := 5) rfl)))
theorem mX12_meets_0_7 : Cond.initialized "java/lang/Math" ∈ wsX12_meets := (List.mem_cons_of_mem _ (List.mem_append_left _ (List.mem_of_getElem? (i := 6) rfl)))
theorem mX12_meets_0_8 : Cond.code Lib.Math.max.name Lib.Math.max.code 2 (some .int) ∈ wsX12_meets := (List.mem_cons_of_mem _ (List.mem_append_left _ (List.mem_of_getElem? (i := 7) rfl)))
theorem mX12_meets_0_9 : Cond.fieldLink RX12 130 "HissHornModel" "printTo" "[I" ∈ wsX12_meets := (List.mem_cons_of_mem _ (List.mem_append_left _ (List.mem_of_getElem? (i := 8) rfl)))
theorem mX12_meets_0_10 : Cond.methodLink RX12 295 Lib.Math.min.name ∈ wsX12_meets := (List.mem_cons_of_mem _ (List.mem_append_left _ (List.mem_of_getElem? (i := 9) rfl)))
theorem mX12_meets_0_11 : Cond.static Lib.Math.min.name ∈ wsX12_meets := (List.mem_cons_of_mem _ (List.mem_append_left _ (List.mem_of_getElem? (i := 10) rfl)))
theorem mX12_meets_0_12 : Cond.code Lib.Math.min.name Lib.Math.min.code 2 (some .int) ∈ wsX12_meets := (List.mem_cons_of_mem _ (List.mem_append_left _ (List.mem_of_getElem? (i := 11) rfl)))
def LX12_meets_0_39 (k105 : Int32 → Int32 → SX → Option (Int32 × SX)) : Nat → Int32 → Int32 → Int32 → SX → Option (Int32 × SX)
  | 0, _, _, _, _ => none
  | n + 1, z1, z2, z3, u => (if (40 + (u.1 24)) ≤ z3 then (k105 z1 z2 u) else (gd (inb ((60 * z1) + z3) 480) (if (u.2.1 42 ((60 * z1) + z3).toNatClampNeg) = 0 then (GX12_meets_0_99 (LX12_meets_0_39 k105 n) z1 z2 z3 u) else (gd (inb z2 60) (gd (inb z3 60) (gd (inb z2 60) (gd (inb z3 60) (if (if (u.2.1 37 z3.toNatClampNeg) < (u.2.1 37 z2.toNatClampNeg) then (u.2.1 37 z3.toNatClampNeg) else (u.2.1 37 z2.toNatClampNeg)) < (if (u.2.1 36 z2.toNatClampNeg) < (u.2.1 36 z3.toNatClampNeg) then (u.2.1 36 z3.toNatClampNeg) else (u.2.1 36 z2.toNatClampNeg)) then (GX12_meets_0_99 (LX12_meets_0_39 k105 n) z1 z2 z3 u) else (gd (isB 1) (some (1, u)))))))))))
def LX12_meets_0_2  : Nat → Int32 → Int32 → SX → Option (Int32 × SX)
  | 0, _, _, _ => none
  | n + 1, z1, z2, u => (if (u.1 23) ≤ z2 then (gd (isB 0) (some (0, u))) else (gd (inb ((60 * z1) + z2) 480) (if (u.2.1 42 ((60 * z1) + z2).toNatClampNeg) = 0 then (GX12_meets_0_105 (LX12_meets_0_2 n) z1 z2 u) else (gd (inb z2 60) (if 0 < (u.2.1 36 z2.toNatClampNeg) then (LX12_meets_0_39 (GX12_meets_0_105 (LX12_meets_0_2 n)) 5000 z1 z2 40 u) else (GX12_meets_0_105 (LX12_meets_0_2 n) z1 z2 u))))))
def fX12_meets_0 (x1 : Int32) (u : SX) : Option (Int32 × SX) := (LX12_meets_0_2  5000 x1 0 u)
set_option maxHeartbeats 4000000 in
set_option maxRecDepth 100000 in
theorem wGX12_meets_0_105 {p : Program} {l : Launch} {e : Env} {s : State} {m : MethodId} {args : Array Value} {below : List Frame} {meth : Method} {c : Code} {D : va_G} {cy : Nat → ClassId} {ad st : Nat → Nat} (C : Cx RX12 cX12_meets 4 (some .boolean) wsX12_meets p s m args meth c) (hK : Ky D [(cy 0, .int), (cy 1, .long), (cy 2, .boolean), (cy 3, .byte), (cy 4, .object "HissHorn$Text")] st s) (hJ : JM ad st) {r : Int32} {u' : SX} {k2 : Int32 → Int32 → SX → Option (Int32 × SX)} (hk2 : ∀ (z1 : Int32) (z2 : Int32) (u : SX) (H : Heap) (locs : List Loc) (ls : Array Slot), k2 z1 z2 u = some (r, u') → va_P D vwCl (VM cy ad st u) H → va_S (Ax (AM ad) s.heap.size) s.heap H locs → lv_has ls 4 [(0, .ref (ad 0)), (1, .int z1), (2, .int z2)] → W p l e rmX12_meets_0 s m args below meth c H locs 0 0 (MQ below (Qi D (VM cy ad st) (AM ad) s.heap.size r u') args s 0 0 (Ax (AM ad) s.heap.size)) (F0 m 2 ls [])) (z1 : Int32) (z2 : Int32) (u : SX) (H : Heap) (locs : List Loc) (ls : Array Slot) (h : GX12_meets_0_105 k2 z1 z2 u = some (r, u')) (hP : va_P D vwCl (VM cy ad st u) H) (hS : va_S (Ax (AM ad) s.heap.size) s.heap H locs) (hl : lv_has ls 4 [(0, .ref (ad 0)), (1, .int z1), (2, .int z2)]) : W p l e rmX12_meets_0 s m args below meth c H locs 0 0 (MQ below (Qi D (VM cy ad st) (AM ad) s.heap.size r u') args s 0 0 (Ax (AM ad) s.heap.size)) (F0 m 105 ls []) := by
  unfold GX12_meets_0_105 at h
  refine lv_iinc (v := z2 + 1) (lv' := [(2, .int (z2 + 1)), (0, .ref (ad 0)), (1, .int z1)]) C.1 C.2.1 dX12_meets_105 hl (k := 2) rfl rfl (by decide) rfl (fun ls hl => ?_)
  replace hl := lv_sub (l' := [(0, .ref (ad 0)), (1, .int z1), (2, .int (z2 + 1))]) hl [1, 2, 0] rfl
  refine lv_goto (tgt := 2) C.1 C.2.1 dX12_meets_108 (by decide) ?_
  exact hk2 _ _ _ _ _ _ h hP hS hl
set_option maxHeartbeats 4000000 in
set_option maxRecDepth 100000 in
theorem wGX12_meets_0_99 {p : Program} {l : Launch} {e : Env} {s : State} {m : MethodId} {args : Array Value} {below : List Frame} {meth : Method} {c : Code} {D : va_G} {cy : Nat → ClassId} {ad st : Nat → Nat} (C : Cx RX12 cX12_meets 4 (some .boolean) wsX12_meets p s m args meth c) (hK : Ky D [(cy 0, .int), (cy 1, .long), (cy 2, .boolean), (cy 3, .byte), (cy 4, .object "HissHorn$Text")] st s) (hJ : JM ad st) {r : Int32} {u' : SX} {k39 : Int32 → Int32 → Int32 → SX → Option (Int32 × SX)} (hk39 : ∀ (z1 : Int32) (z2 : Int32) (z3 : Int32) (u : SX) (H : Heap) (locs : List Loc) (ls : Array Slot), k39 z1 z2 z3 u = some (r, u') → va_P D vwCl (VM cy ad st u) H → va_S (Ax (AM ad) s.heap.size) s.heap H locs → lv_has ls 4 [(0, .ref (ad 0)), (1, .int z1), (2, .int z2), (3, .int z3)] → W p l e rmX12_meets_0 s m args below meth c H locs 0 0 (MQ below (Qi D (VM cy ad st) (AM ad) s.heap.size r u') args s 0 0 (Ax (AM ad) s.heap.size)) (F0 m 39 ls [])) (z1 : Int32) (z2 : Int32) (z3 : Int32) (u : SX) (H : Heap) (locs : List Loc) (ls : Array Slot) (h : GX12_meets_0_99 k39 z1 z2 z3 u = some (r, u')) (hP : va_P D vwCl (VM cy ad st u) H) (hS : va_S (Ax (AM ad) s.heap.size) s.heap H locs) (hl : lv_has ls 4 [(0, .ref (ad 0)), (1, .int z1), (2, .int z2), (3, .int z3)]) : W p l e rmX12_meets_0 s m args below meth c H locs 0 0 (MQ below (Qi D (VM cy ad st) (AM ad) s.heap.size r u') args s 0 0 (Ax (AM ad) s.heap.size)) (F0 m 99 ls []) := by
  unfold GX12_meets_0_99 at h
  refine lv_iinc (v := z3 + 1) (lv' := [(3, .int (z3 + 1)), (0, .ref (ad 0)), (1, .int z1), (2, .int z2)]) C.1 C.2.1 dX12_meets_99 hl (k := 3) rfl rfl (by decide) rfl (fun ls hl => ?_)
  replace hl := lv_sub (l' := [(0, .ref (ad 0)), (1, .int z1), (2, .int z2), (3, .int (z3 + 1))]) hl [1, 2, 3, 0] rfl
  refine lv_goto (tgt := 39) C.1 C.2.1 dX12_meets_102 (by decide) ?_
  exact hk39 _ _ _ _ _ _ _ h hP hS hl
set_option maxHeartbeats 4000000 in
set_option maxRecDepth 100000 in
theorem wLX12_meets_0_39 {p : Program} {l : Launch} {e : Env} {s : State} {m : MethodId} {args : Array Value} {below : List Frame} {meth : Method} {c : Code} {D : va_G} {cy : Nat → ClassId} {ad st : Nat → Nat} (C : Cx RX12 cX12_meets 4 (some .boolean) wsX12_meets p s m args meth c) (hK : Ky D [(cy 0, .int), (cy 1, .long), (cy 2, .boolean), (cy 3, .byte), (cy 4, .object "HissHorn$Text")] st s) (hJ : JM ad st) {r : Int32} {u' : SX} {k105 : Int32 → Int32 → SX → Option (Int32 × SX)} (hk105 : ∀ (z1 : Int32) (z2 : Int32) (u : SX) (H : Heap) (locs : List Loc) (ls : Array Slot), k105 z1 z2 u = some (r, u') → va_P D vwCl (VM cy ad st u) H → va_S (Ax (AM ad) s.heap.size) s.heap H locs → lv_has ls 4 [(0, .ref (ad 0)), (1, .int z1), (2, .int z2)] → W p l e rmX12_meets_0 s m args below meth c H locs 0 0 (MQ below (Qi D (VM cy ad st) (AM ad) s.heap.size r u') args s 0 0 (Ax (AM ad) s.heap.size)) (F0 m 105 ls [])) : ∀ (n : Nat) (z1 : Int32) (z2 : Int32) (z3 : Int32) (u : SX) (H : Heap) (locs : List Loc) (ls : Array Slot), LX12_meets_0_39 k105 n z1 z2 z3 u = some (r, u') → va_P D vwCl (VM cy ad st u) H → va_S (Ax (AM ad) s.heap.size) s.heap H locs → lv_has ls 4 [(0, .ref (ad 0)), (1, .int z1), (2, .int z2), (3, .int z3)] → W p l e rmX12_meets_0 s m args below meth c H locs 0 0 (MQ below (Qi D (VM cy ad st) (AM ad) s.heap.size r u') args s 0 0 (Ax (AM ad) s.heap.size)) (F0 m 39 ls []) := by
  intro n
  induction n with
  | zero =>
    intro z1 z2 z3 u H locs ls h
    exact absurd h (by intro q; cases q)
  | succ n ih =>
    intro z1 z2 z3 u H locs ls h hP hS hl
    rw [LX12_meets_0_39] at h
    refine lv_iload_n C.1 C.2.1 dX12_meets_39 rfl (lv_at hl 3 rfl) ?_
    refine lv_bipush (v := 40) C.1 C.2.1 dX12_meets_40 (by decide) ?_
    refine lv_aload_n C.1 C.2.1 dX12_meets_42 rfl (lv_at hl 0 rfl) ?_
    refine gM_0_papers C hX12_meets_0_X12 hK hP mX12_meets_0_4 dX12_meets_43 ?_
    refine lv_iadd C.1 C.2.1 dX12_meets_46 ?_
    refine lv_icmp_ge (tgt := 105) C.1 C.2.1 dX12_meets_47 (by decide) (fun c47 => ?_) (fun c47 => ?_)
    · rw [if_pos c47] at h
      exact hk105 _ _ _ _ _ _ h hP hS (lv_sub hl [0, 1, 2] rfl)
    · rw [if_neg c47] at h
      refine lv_aload_n C.1 C.2.1 dX12_meets_50 rfl (lv_at hl 0 rfl) ?_
      refine gM_0_known C hX12_meets_0_X12 hK hP mX12_meets_0_2 dX12_meets_51 ?_
      refine lv_bipush (v := 60) C.1 C.2.1 dX12_meets_54 (by decide) ?_
      refine lv_iload_n C.1 C.2.1 dX12_meets_56 rfl (lv_at hl 1 rfl) ?_
      refine lv_imul C.1 C.2.1 dX12_meets_57 ?_
      refine lv_iload_n C.1 C.2.1 dX12_meets_58 rfl (lv_at hl 3 rfl) ?_
      refine lv_iadd C.1 C.2.1 dX12_meets_59 ?_
      obtain ⟨hg4, h⟩ := gd_some h
      refine lM_42 C hK hP hg4 dX12_meets_60 ?_
      refine lv_if_eq (tgt := 99) C.1 C.2.1 dX12_meets_61 (by decide) (fun c61 => ?_) (fun c61 => ?_)
      · rw [if_pos c61] at h
        exact wGX12_meets_0_99 C hK hJ ih _ _ _ _ _ _ _ h hP hS hl
      · rw [if_neg c61] at h
        refine lv_aload_n C.1 C.2.1 dX12_meets_64 rfl (lv_at hl 0 rfl) ?_
        refine gM_0_printFrom C hX12_meets_0_X12 hK hP mX12_meets_0_3 dX12_meets_65 ?_
        refine lv_iload_n C.1 C.2.1 dX12_meets_68 rfl (lv_at hl 2 rfl) ?_
        obtain ⟨hg5, h⟩ := gd_some h
        refine lM_36 C hK hP hg5 dX12_meets_69 ?_
        refine lv_aload_n C.1 C.2.1 dX12_meets_70 rfl (lv_at hl 0 rfl) ?_
        refine gM_0_printFrom C hX12_meets_0_X12 hK hP mX12_meets_0_3 dX12_meets_71 ?_
        refine lv_iload_n C.1 C.2.1 dX12_meets_74 rfl (lv_at hl 3 rfl) ?_
        obtain ⟨hg6, h⟩ := gd_some h
        refine lM_36 C hK hP hg6 dX12_meets_75 ?_
        refine va_mmax C.1 C.2.1 (C.2.2.1.trans hl.1.symm) C.2.2.2.2.1 (C.2.2.2.2.2.1 _ mX12_meets_0_5) (C.2.2.2.2.2.1 _ mX12_meets_0_6) (C.2.2.2.2.2.1 _ mX12_meets_0_7) (C.2.2.2.2.2.1 _ mX12_meets_0_8) (Nat.le_of_ble_eq_true rfl) (Nat.le_of_ble_eq_true rfl) (Nat.zero_le _) (Nat.zero_le _) dX12_meets_76 ?_
        refine lv_aload_n C.1 C.2.1 dX12_meets_79 rfl (lv_at hl 0 rfl) ?_
        refine gM_0_printTo C hX12_meets_0_X12 hK hP mX12_meets_0_9 dX12_meets_80 ?_
        refine lv_iload_n C.1 C.2.1 dX12_meets_83 rfl (lv_at hl 2 rfl) ?_
        obtain ⟨hg7, h⟩ := gd_some h
        refine lM_37 C hK hP hg7 dX12_meets_84 ?_
        refine lv_aload_n C.1 C.2.1 dX12_meets_85 rfl (lv_at hl 0 rfl) ?_
        refine gM_0_printTo C hX12_meets_0_X12 hK hP mX12_meets_0_9 dX12_meets_86 ?_
        refine lv_iload_n C.1 C.2.1 dX12_meets_89 rfl (lv_at hl 3 rfl) ?_
        obtain ⟨hg8, h⟩ := gd_some h
        refine lM_37 C hK hP hg8 dX12_meets_90 ?_
        refine va_mmin C.1 C.2.1 (C.2.2.1.trans hl.1.symm) C.2.2.2.2.1 (C.2.2.2.2.2.1 _ mX12_meets_0_10) (C.2.2.2.2.2.1 _ mX12_meets_0_11) (C.2.2.2.2.2.1 _ mX12_meets_0_7) (C.2.2.2.2.2.1 _ mX12_meets_0_12) (Nat.le_of_ble_eq_true rfl) (Nat.le_of_ble_eq_true rfl) (Nat.zero_le _) (Nat.zero_le _) dX12_meets_91 ?_
        refine lv_icmp_gt (tgt := 99) C.1 C.2.1 dX12_meets_94 (by decide) (fun c94 => ?_) (fun c94 => ?_)
        · rw [if_pos c94] at h
          exact wGX12_meets_0_99 C hK hJ ih _ _ _ _ _ _ _ h hP hS hl
        · rw [if_neg c94] at h
          refine lv_iconst (v := 1) C.1 C.2.1 dX12_meets_97 (by decide) ?_
          obtain ⟨hg9, h⟩ := gd_some h
          cases h
          exact rt_z hg9 C hP hS dX12_meets_98
set_option maxHeartbeats 4000000 in
set_option maxRecDepth 100000 in
theorem wLX12_meets_0_2 {p : Program} {l : Launch} {e : Env} {s : State} {m : MethodId} {args : Array Value} {below : List Frame} {meth : Method} {c : Code} {D : va_G} {cy : Nat → ClassId} {ad st : Nat → Nat} (C : Cx RX12 cX12_meets 4 (some .boolean) wsX12_meets p s m args meth c) (hK : Ky D [(cy 0, .int), (cy 1, .long), (cy 2, .boolean), (cy 3, .byte), (cy 4, .object "HissHorn$Text")] st s) (hJ : JM ad st) {r : Int32} {u' : SX}   : ∀ (n : Nat) (z1 : Int32) (z2 : Int32) (u : SX) (H : Heap) (locs : List Loc) (ls : Array Slot), LX12_meets_0_2  n z1 z2 u = some (r, u') → va_P D vwCl (VM cy ad st u) H → va_S (Ax (AM ad) s.heap.size) s.heap H locs → lv_has ls 4 [(0, .ref (ad 0)), (1, .int z1), (2, .int z2)] → W p l e rmX12_meets_0 s m args below meth c H locs 0 0 (MQ below (Qi D (VM cy ad st) (AM ad) s.heap.size r u') args s 0 0 (Ax (AM ad) s.heap.size)) (F0 m 2 ls []) := by
  intro n
  induction n with
  | zero =>
    intro z1 z2 u H locs ls h
    exact absurd h (by intro q; cases q)
  | succ n ih =>
    intro z1 z2 u H locs ls h hP hS hl
    rw [LX12_meets_0_2] at h
    refine lv_iload_n C.1 C.2.1 dX12_meets_2 rfl (lv_at hl 2 rfl) ?_
    refine lv_aload_n C.1 C.2.1 dX12_meets_3 rfl (lv_at hl 0 rfl) ?_
    refine gM_0_prints C hX12_meets_0_X12 hK hP mX12_meets_0_1 dX12_meets_4 ?_
    refine lv_icmp_ge (tgt := 111) C.1 C.2.1 dX12_meets_7 (by decide) (fun c7 => ?_) (fun c7 => ?_)
    · rw [if_pos c7] at h
      refine lv_iconst (v := 0) C.1 C.2.1 dX12_meets_111 (by decide) ?_
      obtain ⟨hg1, h⟩ := gd_some h
      cases h
      exact rt_z hg1 C hP hS dX12_meets_112
    · rw [if_neg c7] at h
      refine lv_aload_n C.1 C.2.1 dX12_meets_10 rfl (lv_at hl 0 rfl) ?_
      refine gM_0_known C hX12_meets_0_X12 hK hP mX12_meets_0_2 dX12_meets_11 ?_
      refine lv_bipush (v := 60) C.1 C.2.1 dX12_meets_14 (by decide) ?_
      refine lv_iload_n C.1 C.2.1 dX12_meets_16 rfl (lv_at hl 1 rfl) ?_
      refine lv_imul C.1 C.2.1 dX12_meets_17 ?_
      refine lv_iload_n C.1 C.2.1 dX12_meets_18 rfl (lv_at hl 2 rfl) ?_
      refine lv_iadd C.1 C.2.1 dX12_meets_19 ?_
      obtain ⟨hg2, h⟩ := gd_some h
      refine lM_42 C hK hP hg2 dX12_meets_20 ?_
      refine lv_if_eq (tgt := 105) C.1 C.2.1 dX12_meets_21 (by decide) (fun c21 => ?_) (fun c21 => ?_)
      · rw [if_pos c21] at h
        exact wGX12_meets_0_105 C hK hJ ih _ _ _ _ _ _ h hP hS hl
      · rw [if_neg c21] at h
        refine lv_aload_n C.1 C.2.1 dX12_meets_24 rfl (lv_at hl 0 rfl) ?_
        refine gM_0_printFrom C hX12_meets_0_X12 hK hP mX12_meets_0_3 dX12_meets_25 ?_
        refine lv_iload_n C.1 C.2.1 dX12_meets_28 rfl (lv_at hl 2 rfl) ?_
        obtain ⟨hg3, h⟩ := gd_some h
        refine lM_36 C hK hP hg3 dX12_meets_29 ?_
        refine lv_if_gt (tgt := 36) C.1 C.2.1 dX12_meets_30 (by decide) (fun c30 => ?_) (fun c30 => ?_)
        · rw [if_pos c30] at h
          refine lv_bipush (v := 40) C.1 C.2.1 dX12_meets_36 (by decide) ?_
          refine lv_istore_n (lv' := [(3, .int 40), (0, .ref (ad 0)), (1, .int z1), (2, .int z2)]) C.1 C.2.1 dX12_meets_38 rfl hl (by decide) rfl (fun ls hl => ?_)
          replace hl := lv_sub (l' := [(0, .ref (ad 0)), (1, .int z1), (2, .int z2), (3, .int 40)]) hl [1, 2, 3, 0] rfl
          exact wLX12_meets_0_39 C hK hJ (wGX12_meets_0_105 C hK hJ ih) 5000 _ _ _ _ _ _ _ h hP hS hl
        · rw [if_neg c30] at h
          refine lv_goto (tgt := 105) C.1 C.2.1 dX12_meets_33 (by decide) ?_
          exact wGX12_meets_0_105 C hK hJ ih _ _ _ _ _ _ h hP hS hl
set_option maxHeartbeats 4000000 in
set_option maxRecDepth 100000 in
theorem wX12_meets_0 {p : Program} {l : Launch} {e : Env} {s : State} {m : MethodId} {args : Array Value} {below : List Frame} {meth : Method} {c : Code} {D : va_G} {cy : Nat → ClassId} {ad st : Nat → Nat} (C : Cx RX12 cX12_meets 4 (some .boolean) wsX12_meets p s m args meth c) (hK : Ky D [(cy 0, .int), (cy 1, .long), (cy 2, .boolean), (cy 3, .byte), (cy 4, .object "HissHorn$Text")] st s) (hJ : JM ad st) (x1 : Int32) {u : SX} {r : Int32} {u' : SX} {H : Heap} {locs : List Loc} {ls : Array Slot} (h : fX12_meets_0 x1 u = some (r, u')) (hP : va_P D vwCl (VM cy ad st u) H) (hS : va_S (Ax (AM ad) s.heap.size) s.heap H locs) (hl : lv_has ls 4 [(0, .ref (ad 0)), (1, .int x1)]) : W p l e rmX12_meets_0 s m args below meth c H locs 0 0 (MQ below (Qi D (VM cy ad st) (AM ad) s.heap.size r u') args s 0 0 (Ax (AM ad) s.heap.size)) (F0 m 0 ls []) := by
  unfold fX12_meets_0 at h
  refine lv_iconst (v := 0) C.1 C.2.1 dX12_meets_0 (by decide) ?_
  refine lv_istore_n (lv' := [(2, .int 0), (0, .ref (ad 0)), (1, .int x1)]) C.1 C.2.1 dX12_meets_1 rfl hl (by decide) rfl (fun ls hl => ?_)
  replace hl := lv_sub (l' := [(0, .ref (ad 0)), (1, .int x1), (2, .int 0)]) hl [1, 2, 0] rfl
  exact wLX12_meets_0_2 C hK hJ  5000 _ _ _ _ _ _ h hP hS hl
theorem metX12_meets_0 (l : Launch) (D : va_G) (cy : Nat → ClassId) (ad st : Nat → Nat) (hJ : JM ad st) (sz : Nat) (x1 : Int32) {u : SX} {r : Int32} {u' : SX} (h : fX12_meets_0 x1 u = some (r, u')) : Met l yX12_meets wsX12_meets rmX12_meets_0 (va_Pc [.ref (ad 0), .int x1] (Px D [(cy 0, .int), (cy 1, .long), (cy 2, .boolean), (cy 3, .byte), (cy 4, .object "HissHorn$Text")] st (VM cy ad st) sz u)) (Qi D (VM cy ad st) (AM ad) sz r u') 0 0 (Ax (AM ad) sz) := by
  refine Met.ofW (cc := cX12_meets) (maxL := 4) (ret := (some .boolean)) (by decide) rfl ?_
  intro p e s m args below meth c s₁ B hml hv
  obtain ⟨rfl, hsz, hP, hK⟩ := hv
  subst hsz
  have C : Cx RX12 cX12_meets 4 (some .boolean) wsX12_meets p s m _ meth c := ⟨B.exec, B.bytes, hml, B.returns, findClass_of_methodNamed B.named, atoms_spec (ws := wsX12_meets) B.pre, B.notSynchronized⟩
  have hl := lv_entry ([.ref (ad 0), .int x1]) (n := 4) (Nat.le_of_ble_eq_true rfl)
  rw [lg_entry_eq]
  exact wX12_meets_0 C hK hJ x1 h hP va_S.rf hl

theorem zdX12_metBy_20 : (and (and (and (and (and (zk cX12_metBy 20 (.iload 4) 2) (zk cX12_metBy 22 (.aload_n 0) 1)) (and (zk cX12_metBy 23 (.getfield 439) 3) (zk cX12_metBy 26 (.if_icmp .ge 20) 3))) (and (and (zk cX12_metBy 29 (.aload_n 0) 1) (zk cX12_metBy 30 (.iload 4) 2)) (and (zk cX12_metBy 32 (.invokevirtual 466) 3) (zk cX12_metBy 35 (.ifCond .eq 5) 3)))) (and (and (and (zk cX12_metBy 40 (.iinc 4 1) 3) (zk cX12_metBy 43 (.goto (-23)) 3)) (and (zk cX12_metBy 38 (.iload_n 3) 1) (zk cX12_metBy 39 (.ireturn) 1))) (and (and (zk cX12_metBy 46 (.iinc 3 1) 3) (zk cX12_metBy 49 (.goto (-43)) 3)) (zk cX12_metBy 6 (.iload_n 3) 1)))) (and (and (and (and (zk cX12_metBy 7 (.iload_n 2) 1) (zk cX12_metBy 8 (.if_icmp .gt 44) 3)) (and (zk cX12_metBy 52 (.iconst (-1)) 1) (zk cX12_metBy 53 (.ireturn) 1))) (and (and (zk cX12_metBy 11 (.aload_n 0) 1) (zk cX12_metBy 12 (.iload_n 3) 1)) (zk cX12_metBy 13 (.iload_n 1) 1))) (and (and (and (zk cX12_metBy 14 (.invokevirtual 463) 3) (zk cX12_metBy 17 (.iconst 0) 1)) (and (zk cX12_metBy 18 (.istore 4) 2) (zk cX12_metBy 0 (.aload_n 0) 1))) (and (and (zk cX12_metBy 1 (.invokevirtual 460) 3) (zk cX12_metBy 4 (.iconst 0) 1)) (zk cX12_metBy 5 (.istore_n 3) 1))))) = true := by decide +kernel
theorem dX12_metBy_20 : decode cX12_metBy 20 = .ok (.iload 4, 2) := zk_of (zk_l (zk_l (zk_l (zk_l (zk_l zdX12_metBy_20)))))
theorem dX12_metBy_22 : decode cX12_metBy 22 = .ok (.aload_n 0, 1) := zk_of (zk_r (zk_l (zk_l (zk_l (zk_l zdX12_metBy_20)))))
theorem dX12_metBy_23 : decode cX12_metBy 23 = .ok (.getfield 439, 3) := zk_of (zk_l (zk_r (zk_l (zk_l (zk_l zdX12_metBy_20)))))
theorem dX12_metBy_26 : decode cX12_metBy 26 = .ok (.if_icmp .ge 20, 3) := zk_of (zk_r (zk_r (zk_l (zk_l (zk_l zdX12_metBy_20)))))
theorem dX12_metBy_29 : decode cX12_metBy 29 = .ok (.aload_n 0, 1) := zk_of (zk_l (zk_l (zk_r (zk_l (zk_l zdX12_metBy_20)))))
theorem dX12_metBy_30 : decode cX12_metBy 30 = .ok (.iload 4, 2) := zk_of (zk_r (zk_l (zk_r (zk_l (zk_l zdX12_metBy_20)))))
theorem dX12_metBy_32 : decode cX12_metBy 32 = .ok (.invokevirtual 466, 3) := zk_of (zk_l (zk_r (zk_r (zk_l (zk_l zdX12_metBy_20)))))
theorem dX12_metBy_35 : decode cX12_metBy 35 = .ok (.ifCond .eq 5, 3) := zk_of (zk_r (zk_r (zk_r (zk_l (zk_l zdX12_metBy_20)))))
theorem dX12_metBy_40 : decode cX12_metBy 40 = .ok (.iinc 4 1, 3) := zk_of (zk_l (zk_l (zk_l (zk_r (zk_l zdX12_metBy_20)))))
theorem dX12_metBy_43 : decode cX12_metBy 43 = .ok (.goto (-23), 3) := zk_of (zk_r (zk_l (zk_l (zk_r (zk_l zdX12_metBy_20)))))
theorem dX12_metBy_38 : decode cX12_metBy 38 = .ok (.iload_n 3, 1) := zk_of (zk_l (zk_r (zk_l (zk_r (zk_l zdX12_metBy_20)))))
theorem dX12_metBy_39 : decode cX12_metBy 39 = .ok (.ireturn, 1) := zk_of (zk_r (zk_r (zk_l (zk_r (zk_l zdX12_metBy_20)))))
theorem dX12_metBy_46 : decode cX12_metBy 46 = .ok (.iinc 3 1, 3) := zk_of (zk_l (zk_l (zk_r (zk_r (zk_l zdX12_metBy_20)))))
theorem dX12_metBy_49 : decode cX12_metBy 49 = .ok (.goto (-43), 3) := zk_of (zk_r (zk_l (zk_r (zk_r (zk_l zdX12_metBy_20)))))
theorem dX12_metBy_6 : decode cX12_metBy 6 = .ok (.iload_n 3, 1) := zk_of (zk_r (zk_r (zk_r (zk_l zdX12_metBy_20))))
theorem dX12_metBy_7 : decode cX12_metBy 7 = .ok (.iload_n 2, 1) := zk_of (zk_l (zk_l (zk_l (zk_l (zk_r zdX12_metBy_20)))))
theorem dX12_metBy_8 : decode cX12_metBy 8 = .ok (.if_icmp .gt 44, 3) := zk_of (zk_r (zk_l (zk_l (zk_l (zk_r zdX12_metBy_20)))))
theorem dX12_metBy_52 : decode cX12_metBy 52 = .ok (.iconst (-1), 1) := zk_of (zk_l (zk_r (zk_l (zk_l (zk_r zdX12_metBy_20)))))
theorem dX12_metBy_53 : decode cX12_metBy 53 = .ok (.ireturn, 1) := zk_of (zk_r (zk_r (zk_l (zk_l (zk_r zdX12_metBy_20)))))
theorem dX12_metBy_11 : decode cX12_metBy 11 = .ok (.aload_n 0, 1) := zk_of (zk_l (zk_l (zk_r (zk_l (zk_r zdX12_metBy_20)))))
theorem dX12_metBy_12 : decode cX12_metBy 12 = .ok (.iload_n 3, 1) := zk_of (zk_r (zk_l (zk_r (zk_l (zk_r zdX12_metBy_20)))))
theorem dX12_metBy_13 : decode cX12_metBy 13 = .ok (.iload_n 1, 1) := zk_of (zk_r (zk_r (zk_l (zk_r zdX12_metBy_20))))
theorem dX12_metBy_14 : decode cX12_metBy 14 = .ok (.invokevirtual 463, 3) := zk_of (zk_l (zk_l (zk_l (zk_r (zk_r zdX12_metBy_20)))))
theorem dX12_metBy_17 : decode cX12_metBy 17 = .ok (.iconst 0, 1) := zk_of (zk_r (zk_l (zk_l (zk_r (zk_r zdX12_metBy_20)))))
theorem dX12_metBy_18 : decode cX12_metBy 18 = .ok (.istore 4, 2) := zk_of (zk_l (zk_r (zk_l (zk_r (zk_r zdX12_metBy_20)))))
theorem dX12_metBy_0 : decode cX12_metBy 0 = .ok (.aload_n 0, 1) := zk_of (zk_r (zk_r (zk_l (zk_r (zk_r zdX12_metBy_20)))))
theorem dX12_metBy_1 : decode cX12_metBy 1 = .ok (.invokevirtual 460, 3) := zk_of (zk_l (zk_l (zk_r (zk_r (zk_r zdX12_metBy_20)))))
theorem dX12_metBy_4 : decode cX12_metBy 4 = .ok (.iconst 0, 1) := zk_of (zk_r (zk_l (zk_r (zk_r (zk_r zdX12_metBy_20)))))
theorem dX12_metBy_5 : decode cX12_metBy 5 = .ok (.istore_n 3, 1) := zk_of (zk_r (zk_r (zk_r (zk_r zdX12_metBy_20))))
set_option maxRecDepth 20000 in
theorem ggX12_metBy_X12_meets : GoodIn wsX12_metBy wsX12_meets := ggi (fun w h => List.mem_cons_of_mem _ (List.mem_append_left _ (List.mem_append_right _ (List.mem_append_left _ h)))) gs_X12_meets
set_option maxRecDepth 20000 in
theorem gX12_metBy_X12_meets : GoodIn wsX12_metBy (wsV RX12 466 RX12 yX12_meets wsX12_meets) := goodIn_app (goodIn_of _ (by decide +kernel)) ggX12_metBy_X12_meets
set_option maxRecDepth 20000 in
theorem ggX12_metBy_X12_passes : GoodIn wsX12_metBy wsX12_passes := ggi (fun w h => List.mem_cons_of_mem _ (List.mem_append_left _ (List.mem_append_right _ (List.mem_append_right _ (List.mem_append_left _ h))))) gs_X12_passes
set_option maxRecDepth 20000 in
theorem gX12_metBy_X12_passes : GoodIn wsX12_metBy (wsV RX12 463 RX12 yX12_passes wsX12_passes) := goodIn_app (goodIn_of _ (by decide +kernel)) ggX12_metBy_X12_passes
set_option maxRecDepth 20000 in
theorem ggX12_metBy_X12_nobodyKnows : GoodIn wsX12_metBy wsX12_nobodyKnows := ggi (fun w h => List.mem_cons_of_mem _ (List.mem_append_left _ (List.mem_append_right _ (List.mem_append_right _ (List.mem_append_right _ h))))) gs_X12_nobodyKnows
set_option maxRecDepth 20000 in
theorem gX12_metBy_X12_nobodyKnows : GoodIn wsX12_metBy (wsV RX12 460 RX12 yX12_nobodyKnows wsX12_nobodyKnows) := goodIn_app (goodIn_of _ (by decide +kernel)) ggX12_metBy_X12_nobodyKnows
/-- HissHornModel.metBy(II)I of cell 0 -/
def rmX12_metBy_0 : Room := { frames := 3, cells := 0, slots := 0, locals := 68 }
theorem hX12_metBy_0_X12 : ∀ w ∈ u_ws RX12 TX12 69, w ∈ wsX12_metBy := fun w h => (List.mem_cons_of_mem _ (List.mem_append_right _ h))
theorem mX12_metBy_0_1 : Cond.fieldLink RX12 439 "HissHornModel" "houses" "I" ∈ wsX12_metBy := (List.mem_cons_of_mem _ (List.mem_append_left _ (List.mem_append_left _ (List.mem_of_getElem? (i := 10) rfl))))
def LX12_metBy_0_20 (k46 : Int32 → Int32 → Int32 → SX → Option (Int32 × SX)) : Nat → Int32 → Int32 → Int32 → Int32 → SX → Option (Int32 × SX)
  | 0, _, _, _, _, _ => none
  | n + 1, z1, z2, z3, z4, u => (if (u.1 22) ≤ z4 then (k46 z1 z2 z3 u) else ((fX12_meets_0 z4 u).bind fun q => match q with | (r7, u8) => (if r7 = 0 then ((LX12_metBy_0_20 k46 n) z1 z2 z3 (z4 + 1) u8) else (some (z3, u8)))))
def GX12_metBy_0_46 (k6 : Int32 → Int32 → Int32 → SX → Option (Int32 × SX)) (z1 : Int32) (z2 : Int32) (z3 : Int32) (u : SX) : Option (Int32 × SX) := (k6 z1 z2 (z3 + 1) u)
def LX12_metBy_0_6  : Nat → Int32 → Int32 → Int32 → SX → Option (Int32 × SX)
  | 0, _, _, _, _ => none
  | n + 1, z1, z2, z3, u => (if z2 < z3 then (some ((-1), u)) else ((fX12_passes_0 z3 z1 u).bind fun q => match q with | (r4, u5) => (LX12_metBy_0_20 (GX12_metBy_0_46 (LX12_metBy_0_6 n)) 5000 z1 z2 z3 0 u5)))
def fX12_metBy_0 (x1 : Int32) (x2 : Int32) (u : SX) : Option (Int32 × SX) := ((fX12_nobodyKnows_0  u).bind fun q => match q with | (r1, u2) => (LX12_metBy_0_6  5000 x1 x2 0 u2))
set_option maxHeartbeats 4000000 in
set_option maxRecDepth 100000 in
theorem wLX12_metBy_0_20 {p : Program} {l : Launch} {e : Env} {s : State} {m : MethodId} {args : Array Value} {below : List Frame} {meth : Method} {c : Code} {D : va_G} {cy : Nat → ClassId} {ad st : Nat → Nat} (C : Cx RX12 cX12_metBy 5 (some .int) wsX12_metBy p s m args meth c) (hK : Ky D [(cy 0, .int), (cy 1, .long), (cy 2, .boolean), (cy 3, .byte), (cy 4, .object "HissHorn$Text")] st s) (hJ : JM ad st) {r : Int32} {u' : SX} {k46 : Int32 → Int32 → Int32 → SX → Option (Int32 × SX)} (hk46 : ∀ (z1 : Int32) (z2 : Int32) (z3 : Int32) (u : SX) (H : Heap) (locs : List Loc) (ls : Array Slot), k46 z1 z2 z3 u = some (r, u') → va_P D vwCl (VM cy ad st u) H → va_S (Ax (AM ad) s.heap.size) s.heap H locs → lv_has ls 5 [(0, .ref (ad 0)), (1, .int z1), (2, .int z2), (3, .int z3)] → W p l e rmX12_metBy_0 s m args below meth c H locs 0 0 (MQ below (Qi D (VM cy ad st) (AM ad) s.heap.size r u') args s 0 0 (Ax (AM ad) s.heap.size)) (F0 m 46 ls [])) : ∀ (n : Nat) (z1 : Int32) (z2 : Int32) (z3 : Int32) (z4 : Int32) (u : SX) (H : Heap) (locs : List Loc) (ls : Array Slot), LX12_metBy_0_20 k46 n z1 z2 z3 z4 u = some (r, u') → va_P D vwCl (VM cy ad st u) H → va_S (Ax (AM ad) s.heap.size) s.heap H locs → lv_has ls 5 [(0, .ref (ad 0)), (1, .int z1), (2, .int z2), (3, .int z3), (4, .int z4)] → W p l e rmX12_metBy_0 s m args below meth c H locs 0 0 (MQ below (Qi D (VM cy ad st) (AM ad) s.heap.size r u') args s 0 0 (Ax (AM ad) s.heap.size)) (F0 m 20 ls []) := by
  intro n
  induction n with
  | zero =>
    intro z1 z2 z3 z4 u H locs ls h
    exact absurd h (by intro q; cases q)
  | succ n ih =>
    intro z1 z2 z3 z4 u H locs ls h hP hS hl
    rw [LX12_metBy_0_20] at h
    refine lv_iload C.1 C.2.1 dX12_metBy_20 (lv_at hl 4 rfl) ?_
    refine lv_aload_n C.1 C.2.1 dX12_metBy_22 rfl (lv_at hl 0 rfl) ?_
    refine gM_0_houses C hX12_metBy_0_X12 hK hP mX12_metBy_0_1 dX12_metBy_23 ?_
    refine lv_icmp_ge (tgt := 46) C.1 C.2.1 dX12_metBy_26 (by decide) (fun c26 => ?_) (fun c26 => ?_)
    · rw [if_pos c26] at h
      exact hk46 _ _ _ _ _ _ _ h hP hS (lv_sub hl [0, 1, 2, 3] rfl)
    · rw [if_neg c26] at h
      refine lv_aload_n C.1 C.2.1 dX12_metBy_29 rfl (lv_at hl 0 rfl) ?_
      refine lv_iload C.1 C.2.1 dX12_metBy_30 (lv_at hl 4 rfl) ?_
      obtain ⟨⟨r7, u8⟩, hc9, h⟩ := bd_some h
      try dsimp only at h
      refine cg_i (As := [.int z4]) (rest := []) (AM_ge hJ) C hK hP hS (metX12_meets_0 l D cy ad st hJ _ z4 hc9) (cwV 1 C.2.2.2.2.2.1 gX12_metBy_X12_meets rfl rfl rfl (by decide +kernel) ⟨(Nat.le_of_ble_eq_true rfl), (Nat.le_of_ble_eq_true rfl)⟩) 0 12 rfl rfl rfl hl.1 rfl (Nat.le_of_ble_eq_true rfl) dX12_metBy_32 ⟨Nat.zero_le _, Nat.zero_le _⟩ (fun H locs hP hS => ?_)
      refine lv_if_eq (tgt := 40) C.1 C.2.1 dX12_metBy_35 (by decide) (fun c35 => ?_) (fun c35 => ?_)
      · rw [if_pos c35] at h
        refine lv_iinc (v := z4 + 1) (lv' := [(4, .int (z4 + 1)), (0, .ref (ad 0)), (1, .int z1), (2, .int z2), (3, .int z3)]) C.1 C.2.1 dX12_metBy_40 hl (k := 4) rfl rfl (by decide) rfl (fun ls hl => ?_)
        replace hl := lv_sub (l' := [(0, .ref (ad 0)), (1, .int z1), (2, .int z2), (3, .int z3), (4, .int (z4 + 1))]) hl [1, 2, 3, 4, 0] rfl
        refine lv_goto (tgt := 20) C.1 C.2.1 dX12_metBy_43 (by decide) ?_
        exact ih _ _ _ _ _ _ _ _ h hP hS hl
      · rw [if_neg c35] at h
        refine lv_iload_n C.1 C.2.1 dX12_metBy_38 rfl (lv_at hl 3 rfl) ?_
        cases h
        exact rt_i C hP hS dX12_metBy_39
set_option maxHeartbeats 4000000 in
set_option maxRecDepth 100000 in
theorem wGX12_metBy_0_46 {p : Program} {l : Launch} {e : Env} {s : State} {m : MethodId} {args : Array Value} {below : List Frame} {meth : Method} {c : Code} {D : va_G} {cy : Nat → ClassId} {ad st : Nat → Nat} (C : Cx RX12 cX12_metBy 5 (some .int) wsX12_metBy p s m args meth c) (hK : Ky D [(cy 0, .int), (cy 1, .long), (cy 2, .boolean), (cy 3, .byte), (cy 4, .object "HissHorn$Text")] st s) (hJ : JM ad st) {r : Int32} {u' : SX} {k6 : Int32 → Int32 → Int32 → SX → Option (Int32 × SX)} (hk6 : ∀ (z1 : Int32) (z2 : Int32) (z3 : Int32) (u : SX) (H : Heap) (locs : List Loc) (ls : Array Slot), k6 z1 z2 z3 u = some (r, u') → va_P D vwCl (VM cy ad st u) H → va_S (Ax (AM ad) s.heap.size) s.heap H locs → lv_has ls 5 [(0, .ref (ad 0)), (1, .int z1), (2, .int z2), (3, .int z3)] → W p l e rmX12_metBy_0 s m args below meth c H locs 0 0 (MQ below (Qi D (VM cy ad st) (AM ad) s.heap.size r u') args s 0 0 (Ax (AM ad) s.heap.size)) (F0 m 6 ls [])) (z1 : Int32) (z2 : Int32) (z3 : Int32) (u : SX) (H : Heap) (locs : List Loc) (ls : Array Slot) (h : GX12_metBy_0_46 k6 z1 z2 z3 u = some (r, u')) (hP : va_P D vwCl (VM cy ad st u) H) (hS : va_S (Ax (AM ad) s.heap.size) s.heap H locs) (hl : lv_has ls 5 [(0, .ref (ad 0)), (1, .int z1), (2, .int z2), (3, .int z3)]) : W p l e rmX12_metBy_0 s m args below meth c H locs 0 0 (MQ below (Qi D (VM cy ad st) (AM ad) s.heap.size r u') args s 0 0 (Ax (AM ad) s.heap.size)) (F0 m 46 ls []) := by
  unfold GX12_metBy_0_46 at h
  refine lv_iinc (v := z3 + 1) (lv' := [(3, .int (z3 + 1)), (0, .ref (ad 0)), (1, .int z1), (2, .int z2)]) C.1 C.2.1 dX12_metBy_46 hl (k := 3) rfl rfl (by decide) rfl (fun ls hl => ?_)
  replace hl := lv_sub (l' := [(0, .ref (ad 0)), (1, .int z1), (2, .int z2), (3, .int (z3 + 1))]) hl [1, 2, 3, 0] rfl
  refine lv_goto (tgt := 6) C.1 C.2.1 dX12_metBy_49 (by decide) ?_
  exact hk6 _ _ _ _ _ _ _ h hP hS hl
set_option maxHeartbeats 4000000 in
set_option maxRecDepth 100000 in
theorem wLX12_metBy_0_6 {p : Program} {l : Launch} {e : Env} {s : State} {m : MethodId} {args : Array Value} {below : List Frame} {meth : Method} {c : Code} {D : va_G} {cy : Nat → ClassId} {ad st : Nat → Nat} (C : Cx RX12 cX12_metBy 5 (some .int) wsX12_metBy p s m args meth c) (hK : Ky D [(cy 0, .int), (cy 1, .long), (cy 2, .boolean), (cy 3, .byte), (cy 4, .object "HissHorn$Text")] st s) (hJ : JM ad st) {r : Int32} {u' : SX}   : ∀ (n : Nat) (z1 : Int32) (z2 : Int32) (z3 : Int32) (u : SX) (H : Heap) (locs : List Loc) (ls : Array Slot), LX12_metBy_0_6  n z1 z2 z3 u = some (r, u') → va_P D vwCl (VM cy ad st u) H → va_S (Ax (AM ad) s.heap.size) s.heap H locs → lv_has ls 5 [(0, .ref (ad 0)), (1, .int z1), (2, .int z2), (3, .int z3)] → W p l e rmX12_metBy_0 s m args below meth c H locs 0 0 (MQ below (Qi D (VM cy ad st) (AM ad) s.heap.size r u') args s 0 0 (Ax (AM ad) s.heap.size)) (F0 m 6 ls []) := by
  intro n
  induction n with
  | zero =>
    intro z1 z2 z3 u H locs ls h
    exact absurd h (by intro q; cases q)
  | succ n ih =>
    intro z1 z2 z3 u H locs ls h hP hS hl
    rw [LX12_metBy_0_6] at h
    refine lv_iload_n C.1 C.2.1 dX12_metBy_6 rfl (lv_at hl 3 rfl) ?_
    refine lv_iload_n C.1 C.2.1 dX12_metBy_7 rfl (lv_at hl 2 rfl) ?_
    refine lv_icmp_gt (tgt := 52) C.1 C.2.1 dX12_metBy_8 (by decide) (fun c8 => ?_) (fun c8 => ?_)
    · rw [if_pos c8] at h
      refine lv_iconst (v := (-1)) C.1 C.2.1 dX12_metBy_52 (by decide) ?_
      cases h
      exact rt_i C hP hS dX12_metBy_53
    · rw [if_neg c8] at h
      refine lv_aload_n C.1 C.2.1 dX12_metBy_11 rfl (lv_at hl 0 rfl) ?_
      refine lv_iload_n C.1 C.2.1 dX12_metBy_12 rfl (lv_at hl 3 rfl) ?_
      refine lv_iload_n C.1 C.2.1 dX12_metBy_13 rfl (lv_at hl 1 rfl) ?_
      obtain ⟨⟨r4, u5⟩, hc6, h⟩ := bd_some h
      try dsimp only at h
      refine cg_v (As := [.int z3, .int z1]) (rest := []) (AM_ge hJ) C hK hP hS (metX12_passes_0 l D cy ad st hJ _ z3 z1 hc6) (cwV 2 C.2.2.2.2.2.1 gX12_metBy_X12_passes rfl rfl rfl (by decide +kernel) ⟨(Nat.le_of_ble_eq_true rfl), (Nat.le_of_ble_eq_true rfl)⟩) 0 12 rfl rfl rfl hl.1 rfl (Nat.le_of_ble_eq_true rfl) dX12_metBy_14 ⟨Nat.zero_le _, Nat.zero_le _⟩ (fun H locs hP hS => ?_)
      refine lv_iconst (v := 0) C.1 C.2.1 dX12_metBy_17 (by decide) ?_
      refine lv_istore (lv' := [(4, .int 0), (0, .ref (ad 0)), (1, .int z1), (2, .int z2), (3, .int z3)]) C.1 C.2.1 dX12_metBy_18 hl (by decide) rfl (fun ls hl => ?_)
      replace hl := lv_sub (l' := [(0, .ref (ad 0)), (1, .int z1), (2, .int z2), (3, .int z3), (4, .int 0)]) hl [1, 2, 3, 4, 0] rfl
      exact wLX12_metBy_0_20 C hK hJ (wGX12_metBy_0_46 C hK hJ ih) 5000 _ _ _ _ _ _ _ _ h hP hS hl
set_option maxHeartbeats 4000000 in
set_option maxRecDepth 100000 in
theorem wX12_metBy_0 {p : Program} {l : Launch} {e : Env} {s : State} {m : MethodId} {args : Array Value} {below : List Frame} {meth : Method} {c : Code} {D : va_G} {cy : Nat → ClassId} {ad st : Nat → Nat} (C : Cx RX12 cX12_metBy 5 (some .int) wsX12_metBy p s m args meth c) (hK : Ky D [(cy 0, .int), (cy 1, .long), (cy 2, .boolean), (cy 3, .byte), (cy 4, .object "HissHorn$Text")] st s) (hJ : JM ad st) (x1 : Int32) (x2 : Int32) {u : SX} {r : Int32} {u' : SX} {H : Heap} {locs : List Loc} {ls : Array Slot} (h : fX12_metBy_0 x1 x2 u = some (r, u')) (hP : va_P D vwCl (VM cy ad st u) H) (hS : va_S (Ax (AM ad) s.heap.size) s.heap H locs) (hl : lv_has ls 5 [(0, .ref (ad 0)), (1, .int x1), (2, .int x2)]) : W p l e rmX12_metBy_0 s m args below meth c H locs 0 0 (MQ below (Qi D (VM cy ad st) (AM ad) s.heap.size r u') args s 0 0 (Ax (AM ad) s.heap.size)) (F0 m 0 ls []) := by
  unfold fX12_metBy_0 at h
  refine lv_aload_n C.1 C.2.1 dX12_metBy_0 rfl (lv_at hl 0 rfl) ?_
  obtain ⟨⟨r1, u2⟩, hc3, h⟩ := bd_some h
  try dsimp only at h
  refine cg_v (As := []) (rest := []) (AM_ge hJ) C hK hP hS (metX12_nobodyKnows_0 l D cy ad st hJ _  hc3) (cwV 0 C.2.2.2.2.2.1 gX12_metBy_X12_nobodyKnows rfl rfl rfl (by decide +kernel) ⟨(Nat.le_of_ble_eq_true rfl), (Nat.le_of_ble_eq_true rfl)⟩) 0 12 rfl rfl rfl hl.1 rfl (Nat.le_of_ble_eq_true rfl) dX12_metBy_1 ⟨Nat.zero_le _, Nat.zero_le _⟩ (fun H locs hP hS => ?_)
  refine lv_iconst (v := 0) C.1 C.2.1 dX12_metBy_4 (by decide) ?_
  refine lv_istore_n (lv' := [(3, .int 0), (0, .ref (ad 0)), (1, .int x1), (2, .int x2)]) C.1 C.2.1 dX12_metBy_5 rfl hl (by decide) rfl (fun ls hl => ?_)
  replace hl := lv_sub (l' := [(0, .ref (ad 0)), (1, .int x1), (2, .int x2), (3, .int 0)]) hl [1, 2, 3, 0] rfl
  exact wLX12_metBy_0_6 C hK hJ  5000 _ _ _ _ _ _ _ h hP hS hl
theorem metX12_metBy_0 (l : Launch) (D : va_G) (cy : Nat → ClassId) (ad st : Nat → Nat) (hJ : JM ad st) (sz : Nat) (x1 : Int32) (x2 : Int32) {u : SX} {r : Int32} {u' : SX} (h : fX12_metBy_0 x1 x2 u = some (r, u')) : Met l yX12_metBy wsX12_metBy rmX12_metBy_0 (va_Pc [.ref (ad 0), .int x1, .int x2] (Px D [(cy 0, .int), (cy 1, .long), (cy 2, .boolean), (cy 3, .byte), (cy 4, .object "HissHorn$Text")] st (VM cy ad st) sz u)) (Qi D (VM cy ad st) (AM ad) sz r u') 0 0 (Ax (AM ad) sz) := by
  refine Met.ofW (cc := cX12_metBy) (maxL := 5) (ret := (some .int)) (by decide) rfl ?_
  intro p e s m args below meth c s₁ B hml hv
  obtain ⟨rfl, hsz, hP, hK⟩ := hv
  subst hsz
  have C : Cx RX12 cX12_metBy 5 (some .int) wsX12_metBy p s m _ meth c := ⟨B.exec, B.bytes, hml, B.returns, findClass_of_methodNamed B.named, atoms_spec (ws := wsX12_metBy) B.pre, B.notSynchronized⟩
  have hl := lv_entry ([.ref (ad 0), .int x1, .int x2]) (n := 5) (Nat.le_of_ble_eq_true rfl)
  rw [lg_entry_eq]
  exact wX12_metBy_0 C hK hJ x1 x2 h hP va_S.rf hl

theorem zdX12_met_0 : (and (and (and (and (zk cX12_met 0 (.aload_n 0) 1) (zk cX12_met 1 (.iconst 0) 1)) (zk cX12_met 2 (.putfield 151) 3)) (and (zk cX12_met 5 (.aload_n 0) 1) (zk cX12_met 6 (.aload_n 0) 1))) (and (and (and (zk cX12_met 7 (.getfield 451) 3) (zk cX12_met 10 (.aload_n 0) 1)) (zk cX12_met 11 (.getfield 159) 3)) (and (zk cX12_met 14 (.invokevirtual 469) 3) (zk cX12_met 17 (.ireturn) 1)))) = true := by decide +kernel
theorem dX12_met_0 : decode cX12_met 0 = .ok (.aload_n 0, 1) := zk_of (zk_l (zk_l (zk_l (zk_l zdX12_met_0))))
theorem dX12_met_1 : decode cX12_met 1 = .ok (.iconst 0, 1) := zk_of (zk_r (zk_l (zk_l (zk_l zdX12_met_0))))
theorem dX12_met_2 : decode cX12_met 2 = .ok (.putfield 151, 3) := zk_of (zk_r (zk_l (zk_l zdX12_met_0)))
theorem dX12_met_5 : decode cX12_met 5 = .ok (.aload_n 0, 1) := zk_of (zk_l (zk_r (zk_l zdX12_met_0)))
theorem dX12_met_6 : decode cX12_met 6 = .ok (.aload_n 0, 1) := zk_of (zk_r (zk_r (zk_l zdX12_met_0)))
theorem dX12_met_7 : decode cX12_met 7 = .ok (.getfield 451, 3) := zk_of (zk_l (zk_l (zk_l (zk_r zdX12_met_0))))
theorem dX12_met_10 : decode cX12_met 10 = .ok (.aload_n 0, 1) := zk_of (zk_r (zk_l (zk_l (zk_r zdX12_met_0))))
theorem dX12_met_11 : decode cX12_met 11 = .ok (.getfield 159, 3) := zk_of (zk_r (zk_l (zk_r zdX12_met_0)))
theorem dX12_met_14 : decode cX12_met 14 = .ok (.invokevirtual 469, 3) := zk_of (zk_l (zk_r (zk_r zdX12_met_0)))
theorem dX12_met_17 : decode cX12_met 17 = .ok (.ireturn, 1) := zk_of (zk_r (zk_r (zk_r zdX12_met_0)))
set_option maxRecDepth 20000 in
theorem ggX12_met_X12_metBy : GoodIn wsX12_met wsX12_metBy := ggi (fun w h => List.mem_cons_of_mem _ (List.mem_append_left _ (List.mem_append_right _ h))) gs_X12_metBy
set_option maxRecDepth 20000 in
theorem gX12_met_X12_metBy : GoodIn wsX12_met (wsV RX12 469 RX12 yX12_metBy wsX12_metBy) := goodIn_app (goodIn_of _ (by decide +kernel)) ggX12_met_X12_metBy
/-- HissHornModel.met()I of cell 0 -/
def rmX12_met_0 : Room := { frames := 4, cells := 0, slots := 0, locals := 92 }
theorem hX12_met_0_X12 : ∀ w ∈ u_ws RX12 TX12 69, w ∈ wsX12_met := fun w h => (List.mem_cons_of_mem _ (List.mem_append_right _ h))
theorem mX12_met_0_1 : Cond.fieldLink RX12 151 "HissHornModel" "thrown" "I" ∈ wsX12_met := (List.mem_cons_of_mem _ (List.mem_append_left _ (List.mem_append_left _ (List.mem_of_getElem? (i := 4) rfl))))
theorem mX12_met_0_2 : Cond.fieldLink RX12 451 "HissHornModel" "letterMany" "I" ∈ wsX12_met := (List.mem_cons_of_mem _ (List.mem_append_left _ (List.mem_append_left _ (List.mem_of_getElem? (i := 5) rfl))))
theorem mX12_met_0_3 : Cond.fieldLink RX12 159 "HissHornModel" "now" "I" ∈ wsX12_met := (List.mem_cons_of_mem _ (List.mem_append_left _ (List.mem_append_left _ (List.mem_of_getElem? (i := 6) rfl))))
def fX12_met_0  (u : SX) : Option (Int32 × SX) := (lt (sI u 0 0) fun u1 => ((fX12_metBy_0 (u1.1 25) (u1.1 1) u1).bind fun q => match q with | (r3, u4) => (some (r3, u4))))
set_option maxHeartbeats 4000000 in
set_option maxRecDepth 100000 in
theorem wX12_met_0 {p : Program} {l : Launch} {e : Env} {s : State} {m : MethodId} {args : Array Value} {below : List Frame} {meth : Method} {c : Code} {D : va_G} {cy : Nat → ClassId} {ad st : Nat → Nat} (C : Cx RX12 cX12_met 1 (some .int) wsX12_met p s m args meth c) (hK : Ky D [(cy 0, .int), (cy 1, .long), (cy 2, .boolean), (cy 3, .byte), (cy 4, .object "HissHorn$Text")] st s) (hJ : JM ad st)  {u : SX} {r : Int32} {u' : SX} {H : Heap} {locs : List Loc} {ls : Array Slot} (h : fX12_met_0  u = some (r, u')) (hP : va_P D vwCl (VM cy ad st u) H) (hS : va_S (Ax (AM ad) s.heap.size) s.heap H locs) (hl : lv_has ls 1 [(0, .ref (ad 0))]) : W p l e rmX12_met_0 s m args below meth c H locs 0 0 (MQ below (Qi D (VM cy ad st) (AM ad) s.heap.size r u') args s 0 0 (Ax (AM ad) s.heap.size)) (F0 m 0 ls []) := by
  unfold fX12_met_0 at h
  refine lv_aload_n C.1 C.2.1 dX12_met_0 rfl (lv_at hl 0 rfl) ?_
  refine lv_iconst (v := 0) C.1 C.2.1 dX12_met_1 (by decide) ?_
  refine pM_0_thrown C hX12_met_0_X12 hK hP hJ hS mX12_met_0_1 dX12_met_2 (fun H locs hP hS => ?_)
  obtain ⟨u1, hu2, h⟩ := lt_some h
  rw [← hu2] at hP
  refine lv_aload_n C.1 C.2.1 dX12_met_5 rfl (lv_at hl 0 rfl) ?_
  refine lv_aload_n C.1 C.2.1 dX12_met_6 rfl (lv_at hl 0 rfl) ?_
  refine gM_0_letterMany C hX12_met_0_X12 hK hP mX12_met_0_2 dX12_met_7 ?_
  refine lv_aload_n C.1 C.2.1 dX12_met_10 rfl (lv_at hl 0 rfl) ?_
  refine gM_0_now C hX12_met_0_X12 hK hP mX12_met_0_3 dX12_met_11 ?_
  obtain ⟨⟨r3, u4⟩, hc5, h⟩ := bd_some h
  try dsimp only at h
  refine cg_i (As := [.int (u1.1 25), .int (u1.1 1)]) (rest := []) (AM_ge hJ) C hK hP hS (metX12_metBy_0 l D cy ad st hJ _ (u1.1 25) (u1.1 1) hc5) (cwV 2 C.2.2.2.2.2.1 gX12_met_X12_metBy rfl rfl rfl (by decide +kernel) ⟨(Nat.le_of_ble_eq_true rfl), (Nat.le_of_ble_eq_true rfl)⟩) 0 12 rfl rfl rfl hl.1 rfl (Nat.le_of_ble_eq_true rfl) dX12_met_14 ⟨Nat.zero_le _, Nat.zero_le _⟩ (fun H locs hP hS => ?_)
  cases h
  exact rt_i C hP hS dX12_met_17
theorem metX12_met_0 (l : Launch) (D : va_G) (cy : Nat → ClassId) (ad st : Nat → Nat) (hJ : JM ad st) (sz : Nat)  {u : SX} {r : Int32} {u' : SX} (h : fX12_met_0  u = some (r, u')) : Met l yX12_met wsX12_met rmX12_met_0 (va_Pc [.ref (ad 0)] (Px D [(cy 0, .int), (cy 1, .long), (cy 2, .boolean), (cy 3, .byte), (cy 4, .object "HissHorn$Text")] st (VM cy ad st) sz u)) (Qi D (VM cy ad st) (AM ad) sz r u') 0 0 (Ax (AM ad) sz) := by
  refine Met.ofW (cc := cX12_met) (maxL := 1) (ret := (some .int)) (by decide) rfl ?_
  intro p e s m args below meth c s₁ B hml hv
  obtain ⟨rfl, hsz, hP, hK⟩ := hv
  subst hsz
  have C : Cx RX12 cX12_met 1 (some .int) wsX12_met p s m _ meth c := ⟨B.exec, B.bytes, hml, B.returns, findClass_of_methodNamed B.named, atoms_spec (ws := wsX12_met) B.pre, B.notSynchronized⟩
  have hl := lv_entry ([.ref (ad 0)]) (n := 1) (Nat.le_of_ble_eq_true rfl)
  rw [lg_entry_eq]
  exact wX12_met_0 C hK hJ h hP va_S.rf hl

theorem zdX12_wasSent_47 : (and (and (and (and (and (zk cX12_wasSent 47 (.iinc 4 1) 3) (zk cX12_wasSent 50 (.goto (-47)) 3)) (and (zk cX12_wasSent 3 (.iload 4) 2) (zk cX12_wasSent 5 (.aload_n 0) 1))) (and (and (zk cX12_wasSent 6 (.getfield 451) 3) (zk cX12_wasSent 9 (.if_icmp .ge 44) 3)) (and (zk cX12_wasSent 53 (.iconst 0) 1) (zk cX12_wasSent 54 (.ireturn) 1)))) (and (and (and (zk cX12_wasSent 12 (.aload_n 0) 1) (zk cX12_wasSent 13 (.getfield 136) 3)) (and (zk cX12_wasSent 16 (.iload 4) 2) (zk cX12_wasSent 18 (.iaload) 1))) (and (and (zk cX12_wasSent 19 (.iload_n 1) 1) (zk cX12_wasSent 20 (.if_icmp .ne 27) 3)) (zk cX12_wasSent 23 (.aload_n 0) 1)))) (and (and (and (and (zk cX12_wasSent 24 (.getfield 139) 3) (zk cX12_wasSent 27 (.iload 4) 2)) (and (zk cX12_wasSent 29 (.iaload) 1) (zk cX12_wasSent 30 (.iload_n 2) 1))) (and (and (zk cX12_wasSent 31 (.if_icmp .ne 16) 3) (zk cX12_wasSent 34 (.aload_n 0) 1)) (and (zk cX12_wasSent 35 (.getfield 142) 3) (zk cX12_wasSent 38 (.iload 4) 2)))) (and (and (and (zk cX12_wasSent 40 (.iaload) 1) (zk cX12_wasSent 41 (.iload_n 3) 1)) (and (zk cX12_wasSent 42 (.if_icmp .ne 5) 3) (zk cX12_wasSent 45 (.iconst 1) 1))) (and (and (zk cX12_wasSent 46 (.ireturn) 1) (zk cX12_wasSent 0 (.iconst 0) 1)) (zk cX12_wasSent 1 (.istore 4) 2))))) = true := by decide +kernel
theorem dX12_wasSent_47 : decode cX12_wasSent 47 = .ok (.iinc 4 1, 3) := zk_of (zk_l (zk_l (zk_l (zk_l (zk_l zdX12_wasSent_47)))))
theorem dX12_wasSent_50 : decode cX12_wasSent 50 = .ok (.goto (-47), 3) := zk_of (zk_r (zk_l (zk_l (zk_l (zk_l zdX12_wasSent_47)))))
theorem dX12_wasSent_3 : decode cX12_wasSent 3 = .ok (.iload 4, 2) := zk_of (zk_l (zk_r (zk_l (zk_l (zk_l zdX12_wasSent_47)))))
theorem dX12_wasSent_5 : decode cX12_wasSent 5 = .ok (.aload_n 0, 1) := zk_of (zk_r (zk_r (zk_l (zk_l (zk_l zdX12_wasSent_47)))))
theorem dX12_wasSent_6 : decode cX12_wasSent 6 = .ok (.getfield 451, 3) := zk_of (zk_l (zk_l (zk_r (zk_l (zk_l zdX12_wasSent_47)))))
theorem dX12_wasSent_9 : decode cX12_wasSent 9 = .ok (.if_icmp .ge 44, 3) := zk_of (zk_r (zk_l (zk_r (zk_l (zk_l zdX12_wasSent_47)))))
theorem dX12_wasSent_53 : decode cX12_wasSent 53 = .ok (.iconst 0, 1) := zk_of (zk_l (zk_r (zk_r (zk_l (zk_l zdX12_wasSent_47)))))
theorem dX12_wasSent_54 : decode cX12_wasSent 54 = .ok (.ireturn, 1) := zk_of (zk_r (zk_r (zk_r (zk_l (zk_l zdX12_wasSent_47)))))
theorem dX12_wasSent_12 : decode cX12_wasSent 12 = .ok (.aload_n 0, 1) := zk_of (zk_l (zk_l (zk_l (zk_r (zk_l zdX12_wasSent_47)))))
theorem dX12_wasSent_13 : decode cX12_wasSent 13 = .ok (.getfield 136, 3) := zk_of (zk_r (zk_l (zk_l (zk_r (zk_l zdX12_wasSent_47)))))
theorem dX12_wasSent_16 : decode cX12_wasSent 16 = .ok (.iload 4, 2) := zk_of (zk_l (zk_r (zk_l (zk_r (zk_l zdX12_wasSent_47)))))
theorem dX12_wasSent_18 : decode cX12_wasSent 18 = .ok (.iaload, 1) := zk_of (zk_r (zk_r (zk_l (zk_r (zk_l zdX12_wasSent_47)))))
theorem dX12_wasSent_19 : decode cX12_wasSent 19 = .ok (.iload_n 1, 1) := zk_of (zk_l (zk_l (zk_r (zk_r (zk_l zdX12_wasSent_47)))))
theorem dX12_wasSent_20 : decode cX12_wasSent 20 = .ok (.if_icmp .ne 27, 3) := zk_of (zk_r (zk_l (zk_r (zk_r (zk_l zdX12_wasSent_47)))))
theorem dX12_wasSent_23 : decode cX12_wasSent 23 = .ok (.aload_n 0, 1) := zk_of (zk_r (zk_r (zk_r (zk_l zdX12_wasSent_47))))
theorem dX12_wasSent_24 : decode cX12_wasSent 24 = .ok (.getfield 139, 3) := zk_of (zk_l (zk_l (zk_l (zk_l (zk_r zdX12_wasSent_47)))))
theorem dX12_wasSent_27 : decode cX12_wasSent 27 = .ok (.iload 4, 2) := zk_of (zk_r (zk_l (zk_l (zk_l (zk_r zdX12_wasSent_47)))))
theorem dX12_wasSent_29 : decode cX12_wasSent 29 = .ok (.iaload, 1) := zk_of (zk_l (zk_r (zk_l (zk_l (zk_r zdX12_wasSent_47)))))
theorem dX12_wasSent_30 : decode cX12_wasSent 30 = .ok (.iload_n 2, 1) := zk_of (zk_r (zk_r (zk_l (zk_l (zk_r zdX12_wasSent_47)))))
theorem dX12_wasSent_31 : decode cX12_wasSent 31 = .ok (.if_icmp .ne 16, 3) := zk_of (zk_l (zk_l (zk_r (zk_l (zk_r zdX12_wasSent_47)))))
theorem dX12_wasSent_34 : decode cX12_wasSent 34 = .ok (.aload_n 0, 1) := zk_of (zk_r (zk_l (zk_r (zk_l (zk_r zdX12_wasSent_47)))))
theorem dX12_wasSent_35 : decode cX12_wasSent 35 = .ok (.getfield 142, 3) := zk_of (zk_l (zk_r (zk_r (zk_l (zk_r zdX12_wasSent_47)))))
theorem dX12_wasSent_38 : decode cX12_wasSent 38 = .ok (.iload 4, 2) := zk_of (zk_r (zk_r (zk_r (zk_l (zk_r zdX12_wasSent_47)))))
theorem dX12_wasSent_40 : decode cX12_wasSent 40 = .ok (.iaload, 1) := zk_of (zk_l (zk_l (zk_l (zk_r (zk_r zdX12_wasSent_47)))))
theorem dX12_wasSent_41 : decode cX12_wasSent 41 = .ok (.iload_n 3, 1) := zk_of (zk_r (zk_l (zk_l (zk_r (zk_r zdX12_wasSent_47)))))
theorem dX12_wasSent_42 : decode cX12_wasSent 42 = .ok (.if_icmp .ne 5, 3) := zk_of (zk_l (zk_r (zk_l (zk_r (zk_r zdX12_wasSent_47)))))
theorem dX12_wasSent_45 : decode cX12_wasSent 45 = .ok (.iconst 1, 1) := zk_of (zk_r (zk_r (zk_l (zk_r (zk_r zdX12_wasSent_47)))))
theorem dX12_wasSent_46 : decode cX12_wasSent 46 = .ok (.ireturn, 1) := zk_of (zk_l (zk_l (zk_r (zk_r (zk_r zdX12_wasSent_47)))))
theorem dX12_wasSent_0 : decode cX12_wasSent 0 = .ok (.iconst 0, 1) := zk_of (zk_r (zk_l (zk_r (zk_r (zk_r zdX12_wasSent_47)))))
theorem dX12_wasSent_1 : decode cX12_wasSent 1 = .ok (.istore 4, 2) := zk_of (zk_r (zk_r (zk_r (zk_r zdX12_wasSent_47))))
/-- HissHornModel.wasSent(III)Z of cell 0 -/
def rmX12_wasSent_0 : Room := { frames := 0, cells := 0, slots := 0, locals := 0 }
theorem hX12_wasSent_0_X12 : ∀ w ∈ u_ws RX12 TX12 69, w ∈ wsX12_wasSent := fun w h => (List.mem_cons_of_mem _ (List.mem_append_right _ h))
theorem mX12_wasSent_0_1 : Cond.fieldLink RX12 451 "HissHornModel" "letterMany" "I" ∈ wsX12_wasSent := (List.mem_cons_of_mem _ (List.mem_append_left _ (List.mem_of_getElem? (i := 0) rfl)))
theorem mX12_wasSent_0_2 : Cond.fieldLink RX12 136 "HissHornModel" "letterFrom" "[I" ∈ wsX12_wasSent := (List.mem_cons_of_mem _ (List.mem_append_left _ (List.mem_of_getElem? (i := 1) rfl)))
def GX12_wasSent_0_47 (k3 : Int32 → Int32 → Int32 → Int32 → SX → Option (Int32 × SX)) (z1 : Int32) (z2 : Int32) (z3 : Int32) (z4 : Int32) (u : SX) : Option (Int32 × SX) := (k3 z1 z2 z3 (z4 + 1) u)
theorem mX12_wasSent_0_3 : Cond.fieldLink RX12 139 "HissHornModel" "letterTo" "[I" ∈ wsX12_wasSent := (List.mem_cons_of_mem _ (List.mem_append_left _ (List.mem_of_getElem? (i := 2) rfl)))
theorem mX12_wasSent_0_4 : Cond.fieldLink RX12 142 "HissHornModel" "letterDay" "[I" ∈ wsX12_wasSent := (List.mem_cons_of_mem _ (List.mem_append_left _ (List.mem_of_getElem? (i := 3) rfl)))
def LX12_wasSent_0_3  : Nat → Int32 → Int32 → Int32 → Int32 → SX → Option (Int32 × SX)
  | 0, _, _, _, _, _ => none
  | n + 1, z1, z2, z3, z4, u => (if (u.1 25) ≤ z4 then (gd (isB 0) (some (0, u))) else (gd (inb z4 61) (if (u.2.1 39 z4.toNatClampNeg) = z1 then (gd (inb z4 61) (if (u.2.1 40 z4.toNatClampNeg) = z2 then (gd (inb z4 61) (if (u.2.1 41 z4.toNatClampNeg) = z3 then (gd (isB 1) (some (1, u))) else (GX12_wasSent_0_47 (LX12_wasSent_0_3 n) z1 z2 z3 z4 u))) else (GX12_wasSent_0_47 (LX12_wasSent_0_3 n) z1 z2 z3 z4 u))) else (GX12_wasSent_0_47 (LX12_wasSent_0_3 n) z1 z2 z3 z4 u))))
def fX12_wasSent_0 (x1 : Int32) (x2 : Int32) (x3 : Int32) (u : SX) : Option (Int32 × SX) := (LX12_wasSent_0_3  5000 x1 x2 x3 0 u)
set_option maxHeartbeats 4000000 in
set_option maxRecDepth 100000 in
theorem wGX12_wasSent_0_47 {p : Program} {l : Launch} {e : Env} {s : State} {m : MethodId} {args : Array Value} {below : List Frame} {meth : Method} {c : Code} {D : va_G} {cy : Nat → ClassId} {ad st : Nat → Nat} (C : Cx RX12 cX12_wasSent 5 (some .boolean) wsX12_wasSent p s m args meth c) (hK : Ky D [(cy 0, .int), (cy 1, .long), (cy 2, .boolean), (cy 3, .byte), (cy 4, .object "HissHorn$Text")] st s) (hJ : JM ad st) {r : Int32} {u' : SX} {k3 : Int32 → Int32 → Int32 → Int32 → SX → Option (Int32 × SX)} (hk3 : ∀ (z1 : Int32) (z2 : Int32) (z3 : Int32) (z4 : Int32) (u : SX) (H : Heap) (locs : List Loc) (ls : Array Slot), k3 z1 z2 z3 z4 u = some (r, u') → va_P D vwCl (VM cy ad st u) H → va_S (Ax (AM ad) s.heap.size) s.heap H locs → lv_has ls 5 [(0, .ref (ad 0)), (1, .int z1), (2, .int z2), (3, .int z3), (4, .int z4)] → W p l e rmX12_wasSent_0 s m args below meth c H locs 0 0 (MQ below (Qi D (VM cy ad st) (AM ad) s.heap.size r u') args s 0 0 (Ax (AM ad) s.heap.size)) (F0 m 3 ls [])) (z1 : Int32) (z2 : Int32) (z3 : Int32) (z4 : Int32) (u : SX) (H : Heap) (locs : List Loc) (ls : Array Slot) (h : GX12_wasSent_0_47 k3 z1 z2 z3 z4 u = some (r, u')) (hP : va_P D vwCl (VM cy ad st u) H) (hS : va_S (Ax (AM ad) s.heap.size) s.heap H locs) (hl : lv_has ls 5 [(0, .ref (ad 0)), (1, .int z1), (2, .int z2), (3, .int z3), (4, .int z4)]) : W p l e rmX12_wasSent_0 s m args below meth c H locs 0 0 (MQ below (Qi D (VM cy ad st) (AM ad) s.heap.size r u') args s 0 0 (Ax (AM ad) s.heap.size)) (F0 m 47 ls []) := by
  unfold GX12_wasSent_0_47 at h
  refine lv_iinc (v := z4 + 1) (lv' := [(4, .int (z4 + 1)), (0, .ref (ad 0)), (1, .int z1), (2, .int z2), (3, .int z3)]) C.1 C.2.1 dX12_wasSent_47 hl (k := 4) rfl rfl (by decide) rfl (fun ls hl => ?_)
  replace hl := lv_sub (l' := [(0, .ref (ad 0)), (1, .int z1), (2, .int z2), (3, .int z3), (4, .int (z4 + 1))]) hl [1, 2, 3, 4, 0] rfl
  refine lv_goto (tgt := 3) C.1 C.2.1 dX12_wasSent_50 (by decide) ?_
  exact hk3 _ _ _ _ _ _ _ _ h hP hS hl
set_option maxHeartbeats 4000000 in
set_option maxRecDepth 100000 in
theorem wLX12_wasSent_0_3 {p : Program} {l : Launch} {e : Env} {s : State} {m : MethodId} {args : Array Value} {below : List Frame} {meth : Method} {c : Code} {D : va_G} {cy : Nat → ClassId} {ad st : Nat → Nat} (C : Cx RX12 cX12_wasSent 5 (some .boolean) wsX12_wasSent p s m args meth c) (hK : Ky D [(cy 0, .int), (cy 1, .long), (cy 2, .boolean), (cy 3, .byte), (cy 4, .object "HissHorn$Text")] st s) (hJ : JM ad st) {r : Int32} {u' : SX}   : ∀ (n : Nat) (z1 : Int32) (z2 : Int32) (z3 : Int32) (z4 : Int32) (u : SX) (H : Heap) (locs : List Loc) (ls : Array Slot), LX12_wasSent_0_3  n z1 z2 z3 z4 u = some (r, u') → va_P D vwCl (VM cy ad st u) H → va_S (Ax (AM ad) s.heap.size) s.heap H locs → lv_has ls 5 [(0, .ref (ad 0)), (1, .int z1), (2, .int z2), (3, .int z3), (4, .int z4)] → W p l e rmX12_wasSent_0 s m args below meth c H locs 0 0 (MQ below (Qi D (VM cy ad st) (AM ad) s.heap.size r u') args s 0 0 (Ax (AM ad) s.heap.size)) (F0 m 3 ls []) := by
  intro n
  induction n with
  | zero =>
    intro z1 z2 z3 z4 u H locs ls h
    exact absurd h (by intro q; cases q)
  | succ n ih =>
    intro z1 z2 z3 z4 u H locs ls h hP hS hl
    rw [LX12_wasSent_0_3] at h
    refine lv_iload C.1 C.2.1 dX12_wasSent_3 (lv_at hl 4 rfl) ?_
    refine lv_aload_n C.1 C.2.1 dX12_wasSent_5 rfl (lv_at hl 0 rfl) ?_
    refine gM_0_letterMany C hX12_wasSent_0_X12 hK hP mX12_wasSent_0_1 dX12_wasSent_6 ?_
    refine lv_icmp_ge (tgt := 53) C.1 C.2.1 dX12_wasSent_9 (by decide) (fun c9 => ?_) (fun c9 => ?_)
    · rw [if_pos c9] at h
      refine lv_iconst (v := 0) C.1 C.2.1 dX12_wasSent_53 (by decide) ?_
      obtain ⟨hg1, h⟩ := gd_some h
      cases h
      exact rt_z hg1 C hP hS dX12_wasSent_54
    · rw [if_neg c9] at h
      refine lv_aload_n C.1 C.2.1 dX12_wasSent_12 rfl (lv_at hl 0 rfl) ?_
      refine gM_0_letterFrom C hX12_wasSent_0_X12 hK hP mX12_wasSent_0_2 dX12_wasSent_13 ?_
      refine lv_iload C.1 C.2.1 dX12_wasSent_16 (lv_at hl 4 rfl) ?_
      obtain ⟨hg2, h⟩ := gd_some h
      refine lM_39 C hK hP hg2 dX12_wasSent_18 ?_
      refine lv_iload_n C.1 C.2.1 dX12_wasSent_19 rfl (lv_at hl 1 rfl) ?_
      refine lv_icmp_ne (tgt := 47) C.1 C.2.1 dX12_wasSent_20 (by decide) (fun c20 => ?_) (fun c20 => ?_)
      · rw [if_neg c20] at h
        exact wGX12_wasSent_0_47 C hK hJ ih _ _ _ _ _ _ _ _ h hP hS hl
      · rw [if_pos c20] at h
        refine lv_aload_n C.1 C.2.1 dX12_wasSent_23 rfl (lv_at hl 0 rfl) ?_
        refine gM_0_letterTo C hX12_wasSent_0_X12 hK hP mX12_wasSent_0_3 dX12_wasSent_24 ?_
        refine lv_iload C.1 C.2.1 dX12_wasSent_27 (lv_at hl 4 rfl) ?_
        obtain ⟨hg3, h⟩ := gd_some h
        refine lM_40 C hK hP hg3 dX12_wasSent_29 ?_
        refine lv_iload_n C.1 C.2.1 dX12_wasSent_30 rfl (lv_at hl 2 rfl) ?_
        refine lv_icmp_ne (tgt := 47) C.1 C.2.1 dX12_wasSent_31 (by decide) (fun c31 => ?_) (fun c31 => ?_)
        · rw [if_neg c31] at h
          exact wGX12_wasSent_0_47 C hK hJ ih _ _ _ _ _ _ _ _ h hP hS hl
        · rw [if_pos c31] at h
          refine lv_aload_n C.1 C.2.1 dX12_wasSent_34 rfl (lv_at hl 0 rfl) ?_
          refine gM_0_letterDay C hX12_wasSent_0_X12 hK hP mX12_wasSent_0_4 dX12_wasSent_35 ?_
          refine lv_iload C.1 C.2.1 dX12_wasSent_38 (lv_at hl 4 rfl) ?_
          obtain ⟨hg4, h⟩ := gd_some h
          refine lM_41 C hK hP hg4 dX12_wasSent_40 ?_
          refine lv_iload_n C.1 C.2.1 dX12_wasSent_41 rfl (lv_at hl 3 rfl) ?_
          refine lv_icmp_ne (tgt := 47) C.1 C.2.1 dX12_wasSent_42 (by decide) (fun c42 => ?_) (fun c42 => ?_)
          · rw [if_neg c42] at h
            exact wGX12_wasSent_0_47 C hK hJ ih _ _ _ _ _ _ _ _ h hP hS hl
          · rw [if_pos c42] at h
            refine lv_iconst (v := 1) C.1 C.2.1 dX12_wasSent_45 (by decide) ?_
            obtain ⟨hg5, h⟩ := gd_some h
            cases h
            exact rt_z hg5 C hP hS dX12_wasSent_46
set_option maxHeartbeats 4000000 in
set_option maxRecDepth 100000 in
theorem wX12_wasSent_0 {p : Program} {l : Launch} {e : Env} {s : State} {m : MethodId} {args : Array Value} {below : List Frame} {meth : Method} {c : Code} {D : va_G} {cy : Nat → ClassId} {ad st : Nat → Nat} (C : Cx RX12 cX12_wasSent 5 (some .boolean) wsX12_wasSent p s m args meth c) (hK : Ky D [(cy 0, .int), (cy 1, .long), (cy 2, .boolean), (cy 3, .byte), (cy 4, .object "HissHorn$Text")] st s) (hJ : JM ad st) (x1 : Int32) (x2 : Int32) (x3 : Int32) {u : SX} {r : Int32} {u' : SX} {H : Heap} {locs : List Loc} {ls : Array Slot} (h : fX12_wasSent_0 x1 x2 x3 u = some (r, u')) (hP : va_P D vwCl (VM cy ad st u) H) (hS : va_S (Ax (AM ad) s.heap.size) s.heap H locs) (hl : lv_has ls 5 [(0, .ref (ad 0)), (1, .int x1), (2, .int x2), (3, .int x3)]) : W p l e rmX12_wasSent_0 s m args below meth c H locs 0 0 (MQ below (Qi D (VM cy ad st) (AM ad) s.heap.size r u') args s 0 0 (Ax (AM ad) s.heap.size)) (F0 m 0 ls []) := by
  unfold fX12_wasSent_0 at h
  refine lv_iconst (v := 0) C.1 C.2.1 dX12_wasSent_0 (by decide) ?_
  refine lv_istore (lv' := [(4, .int 0), (0, .ref (ad 0)), (1, .int x1), (2, .int x2), (3, .int x3)]) C.1 C.2.1 dX12_wasSent_1 hl (by decide) rfl (fun ls hl => ?_)
  replace hl := lv_sub (l' := [(0, .ref (ad 0)), (1, .int x1), (2, .int x2), (3, .int x3), (4, .int 0)]) hl [1, 2, 3, 4, 0] rfl
  exact wLX12_wasSent_0_3 C hK hJ  5000 _ _ _ _ _ _ _ _ h hP hS hl
theorem metX12_wasSent_0 (l : Launch) (D : va_G) (cy : Nat → ClassId) (ad st : Nat → Nat) (hJ : JM ad st) (sz : Nat) (x1 : Int32) (x2 : Int32) (x3 : Int32) {u : SX} {r : Int32} {u' : SX} (h : fX12_wasSent_0 x1 x2 x3 u = some (r, u')) : Met l yX12_wasSent wsX12_wasSent rmX12_wasSent_0 (va_Pc [.ref (ad 0), .int x1, .int x2, .int x3] (Px D [(cy 0, .int), (cy 1, .long), (cy 2, .boolean), (cy 3, .byte), (cy 4, .object "HissHorn$Text")] st (VM cy ad st) sz u)) (Qi D (VM cy ad st) (AM ad) sz r u') 0 0 (Ax (AM ad) sz) := by
  refine Met.ofW (cc := cX12_wasSent) (maxL := 5) (ret := (some .boolean)) (by decide) rfl ?_
  intro p e s m args below meth c s₁ B hml hv
  obtain ⟨rfl, hsz, hP, hK⟩ := hv
  subst hsz
  have C : Cx RX12 cX12_wasSent 5 (some .boolean) wsX12_wasSent p s m _ meth c := ⟨B.exec, B.bytes, hml, B.returns, findClass_of_methodNamed B.named, atoms_spec (ws := wsX12_wasSent) B.pre, B.notSynchronized⟩
  have hl := lv_entry ([.ref (ad 0), .int x1, .int x2, .int x3]) (n := 5) (Nat.le_of_ble_eq_true rfl)
  rw [lg_entry_eq]
  exact wX12_wasSent_0 C hK hJ x1 x2 x3 h hP va_S.rf hl

theorem zdX12_sooner_187 : (and (and (and (and (and (zk cX12_sooner 187 (.iinc 9 1) 3) (zk cX12_sooner 190 (.goto (-110)) 3)) (and (zk cX12_sooner 80 (.iload 9) 2) (zk cX12_sooner 82 (.aload_n 0) 1))) (and (and (zk cX12_sooner 83 (.getfield 439) 3) (zk cX12_sooner 86 (.if_icmp .ge 107) 3)) (and (zk cX12_sooner 89 (.iload 8) 2) (zk cX12_sooner 91 (.iload 9) 2)))) (and (and (and (zk cX12_sooner 93 (.if_icmp .eq 94) 3) (zk cX12_sooner 96 (.aload_n 0) 1)) (and (zk cX12_sooner 97 (.iload 8) 2) (zk cX12_sooner 99 (.iload 9) 2))) (and (and (zk cX12_sooner 101 (.iload 7) 2) (zk cX12_sooner 103 (.invokevirtual 472) 3)) (and (zk cX12_sooner 106 (.ifCond .eq 6) 3) (zk cX12_sooner 112 (.aload_n 0) 1))))) (and (and (and (and (zk cX12_sooner 113 (.getfield 136) 3) (zk cX12_sooner 116 (.aload_n 0) 1)) (and (zk cX12_sooner 117 (.getfield 451) 3) (zk cX12_sooner 120 (.iload 8) 2))) (and (and (zk cX12_sooner 122 (.iastore) 1) (zk cX12_sooner 123 (.aload_n 0) 1)) (and (zk cX12_sooner 124 (.getfield 139) 3) (zk cX12_sooner 127 (.aload_n 0) 1)))) (and (and (and (zk cX12_sooner 128 (.getfield 451) 3) (zk cX12_sooner 131 (.iload 9) 2)) (and (zk cX12_sooner 133 (.iastore) 1) (zk cX12_sooner 134 (.aload_n 0) 1))) (and (and (zk cX12_sooner 135 (.getfield 142) 3) (zk cX12_sooner 138 (.aload_n 0) 1)) (and (zk cX12_sooner 139 (.getfield 451) 3) (zk cX12_sooner 142 (.iload 7) 2)))))) = true := by decide +kernel
theorem dX12_sooner_187 : decode cX12_sooner 187 = .ok (.iinc 9 1, 3) := zk_of (zk_l (zk_l (zk_l (zk_l (zk_l zdX12_sooner_187)))))
theorem dX12_sooner_190 : decode cX12_sooner 190 = .ok (.goto (-110), 3) := zk_of (zk_r (zk_l (zk_l (zk_l (zk_l zdX12_sooner_187)))))
theorem dX12_sooner_80 : decode cX12_sooner 80 = .ok (.iload 9, 2) := zk_of (zk_l (zk_r (zk_l (zk_l (zk_l zdX12_sooner_187)))))
theorem dX12_sooner_82 : decode cX12_sooner 82 = .ok (.aload_n 0, 1) := zk_of (zk_r (zk_r (zk_l (zk_l (zk_l zdX12_sooner_187)))))
theorem dX12_sooner_83 : decode cX12_sooner 83 = .ok (.getfield 439, 3) := zk_of (zk_l (zk_l (zk_r (zk_l (zk_l zdX12_sooner_187)))))
theorem dX12_sooner_86 : decode cX12_sooner 86 = .ok (.if_icmp .ge 107, 3) := zk_of (zk_r (zk_l (zk_r (zk_l (zk_l zdX12_sooner_187)))))
theorem dX12_sooner_89 : decode cX12_sooner 89 = .ok (.iload 8, 2) := zk_of (zk_l (zk_r (zk_r (zk_l (zk_l zdX12_sooner_187)))))
theorem dX12_sooner_91 : decode cX12_sooner 91 = .ok (.iload 9, 2) := zk_of (zk_r (zk_r (zk_r (zk_l (zk_l zdX12_sooner_187)))))
theorem dX12_sooner_93 : decode cX12_sooner 93 = .ok (.if_icmp .eq 94, 3) := zk_of (zk_l (zk_l (zk_l (zk_r (zk_l zdX12_sooner_187)))))
theorem dX12_sooner_96 : decode cX12_sooner 96 = .ok (.aload_n 0, 1) := zk_of (zk_r (zk_l (zk_l (zk_r (zk_l zdX12_sooner_187)))))
theorem dX12_sooner_97 : decode cX12_sooner 97 = .ok (.iload 8, 2) := zk_of (zk_l (zk_r (zk_l (zk_r (zk_l zdX12_sooner_187)))))
theorem dX12_sooner_99 : decode cX12_sooner 99 = .ok (.iload 9, 2) := zk_of (zk_r (zk_r (zk_l (zk_r (zk_l zdX12_sooner_187)))))
theorem dX12_sooner_101 : decode cX12_sooner 101 = .ok (.iload 7, 2) := zk_of (zk_l (zk_l (zk_r (zk_r (zk_l zdX12_sooner_187)))))
theorem dX12_sooner_103 : decode cX12_sooner 103 = .ok (.invokevirtual 472, 3) := zk_of (zk_r (zk_l (zk_r (zk_r (zk_l zdX12_sooner_187)))))
theorem dX12_sooner_106 : decode cX12_sooner 106 = .ok (.ifCond .eq 6, 3) := zk_of (zk_l (zk_r (zk_r (zk_r (zk_l zdX12_sooner_187)))))
theorem dX12_sooner_112 : decode cX12_sooner 112 = .ok (.aload_n 0, 1) := zk_of (zk_r (zk_r (zk_r (zk_r (zk_l zdX12_sooner_187)))))
theorem dX12_sooner_113 : decode cX12_sooner 113 = .ok (.getfield 136, 3) := zk_of (zk_l (zk_l (zk_l (zk_l (zk_r zdX12_sooner_187)))))
theorem dX12_sooner_116 : decode cX12_sooner 116 = .ok (.aload_n 0, 1) := zk_of (zk_r (zk_l (zk_l (zk_l (zk_r zdX12_sooner_187)))))
theorem dX12_sooner_117 : decode cX12_sooner 117 = .ok (.getfield 451, 3) := zk_of (zk_l (zk_r (zk_l (zk_l (zk_r zdX12_sooner_187)))))
theorem dX12_sooner_120 : decode cX12_sooner 120 = .ok (.iload 8, 2) := zk_of (zk_r (zk_r (zk_l (zk_l (zk_r zdX12_sooner_187)))))
theorem dX12_sooner_122 : decode cX12_sooner 122 = .ok (.iastore, 1) := zk_of (zk_l (zk_l (zk_r (zk_l (zk_r zdX12_sooner_187)))))
theorem dX12_sooner_123 : decode cX12_sooner 123 = .ok (.aload_n 0, 1) := zk_of (zk_r (zk_l (zk_r (zk_l (zk_r zdX12_sooner_187)))))
theorem dX12_sooner_124 : decode cX12_sooner 124 = .ok (.getfield 139, 3) := zk_of (zk_l (zk_r (zk_r (zk_l (zk_r zdX12_sooner_187)))))
theorem dX12_sooner_127 : decode cX12_sooner 127 = .ok (.aload_n 0, 1) := zk_of (zk_r (zk_r (zk_r (zk_l (zk_r zdX12_sooner_187)))))
theorem dX12_sooner_128 : decode cX12_sooner 128 = .ok (.getfield 451, 3) := zk_of (zk_l (zk_l (zk_l (zk_r (zk_r zdX12_sooner_187)))))
theorem dX12_sooner_131 : decode cX12_sooner 131 = .ok (.iload 9, 2) := zk_of (zk_r (zk_l (zk_l (zk_r (zk_r zdX12_sooner_187)))))
theorem dX12_sooner_133 : decode cX12_sooner 133 = .ok (.iastore, 1) := zk_of (zk_l (zk_r (zk_l (zk_r (zk_r zdX12_sooner_187)))))
theorem dX12_sooner_134 : decode cX12_sooner 134 = .ok (.aload_n 0, 1) := zk_of (zk_r (zk_r (zk_l (zk_r (zk_r zdX12_sooner_187)))))
theorem dX12_sooner_135 : decode cX12_sooner 135 = .ok (.getfield 142, 3) := zk_of (zk_l (zk_l (zk_r (zk_r (zk_r zdX12_sooner_187)))))
theorem dX12_sooner_138 : decode cX12_sooner 138 = .ok (.aload_n 0, 1) := zk_of (zk_r (zk_l (zk_r (zk_r (zk_r zdX12_sooner_187)))))
theorem dX12_sooner_139 : decode cX12_sooner 139 = .ok (.getfield 451, 3) := zk_of (zk_l (zk_r (zk_r (zk_r (zk_r zdX12_sooner_187)))))
theorem dX12_sooner_142 : decode cX12_sooner 142 = .ok (.iload 7, 2) := zk_of (zk_r (zk_r (zk_r (zk_r (zk_r zdX12_sooner_187)))))
set_option maxRecDepth 20000 in
theorem ggX12_sooner_X12_wasSent : GoodIn wsX12_sooner wsX12_wasSent := ggi (fun w h => List.mem_cons_of_mem _ (List.mem_append_left _ (List.mem_append_right _ (List.mem_append_left _ h)))) gs_X12_wasSent
set_option maxRecDepth 20000 in
theorem gX12_sooner_X12_wasSent : GoodIn wsX12_sooner (wsV RX12 472 RX12 yX12_wasSent wsX12_wasSent) := goodIn_app (goodIn_of _ (by decide +kernel)) ggX12_sooner_X12_wasSent
theorem zdX12_sooner_144 : (and (and (and (and (and (zk cX12_sooner 144 (.iastore) 1) (zk cX12_sooner 145 (.aload_n 0) 1)) (and (zk cX12_sooner 146 (.aload_n 0) 1) (zk cX12_sooner 147 (.getfield 451) 3))) (and (and (zk cX12_sooner 150 (.iconst 1) 1) (zk cX12_sooner 151 (.iadd) 1)) (and (zk cX12_sooner 152 (.iload_n 2) 1) (zk cX12_sooner 153 (.invokevirtual 469) 3)))) (and (and (and (zk cX12_sooner 156 (.istore 10) 2) (zk cX12_sooner 158 (.iload 10) 2)) (and (zk cX12_sooner 160 (.iconst (-1)) 1) (zk cX12_sooner 161 (.if_icmp .ne 6) 3))) (and (and (zk cX12_sooner 167 (.iload 10) 2) (zk cX12_sooner 169 (.istore 6) 2)) (and (zk cX12_sooner 171 (.iload 8) 2) (zk cX12_sooner 173 (.istore_n 3) 1))))) (and (and (and (and (zk cX12_sooner 174 (.iload 9) 2) (zk cX12_sooner 176 (.istore 4) 2)) (and (zk cX12_sooner 178 (.iload 7) 2) (zk cX12_sooner 180 (.istore 5) 2))) (and (and (zk cX12_sooner 182 (.iload 10) 2) (zk cX12_sooner 184 (.iconst 1) 1)) (and (zk cX12_sooner 185 (.isub) 1) (zk cX12_sooner 186 (.istore_n 2) 1)))) (and (and (and (zk cX12_sooner 164 (.goto 23) 3) (zk cX12_sooner 109 (.goto 78) 3)) (and (zk cX12_sooner 193 (.iinc 8 1) 3) (zk cX12_sooner 196 (.goto (-128)) 3))) (and (and (zk cX12_sooner 68 (.iload 8) 2) (zk cX12_sooner 70 (.aload_n 0) 1)) (and (zk cX12_sooner 71 (.getfield 439) 3) (zk cX12_sooner 74 (.if_icmp .ge 125) 3)))))) = true := by decide +kernel
theorem dX12_sooner_144 : decode cX12_sooner 144 = .ok (.iastore, 1) := zk_of (zk_l (zk_l (zk_l (zk_l (zk_l zdX12_sooner_144)))))
theorem dX12_sooner_145 : decode cX12_sooner 145 = .ok (.aload_n 0, 1) := zk_of (zk_r (zk_l (zk_l (zk_l (zk_l zdX12_sooner_144)))))
theorem dX12_sooner_146 : decode cX12_sooner 146 = .ok (.aload_n 0, 1) := zk_of (zk_l (zk_r (zk_l (zk_l (zk_l zdX12_sooner_144)))))
theorem dX12_sooner_147 : decode cX12_sooner 147 = .ok (.getfield 451, 3) := zk_of (zk_r (zk_r (zk_l (zk_l (zk_l zdX12_sooner_144)))))
theorem dX12_sooner_150 : decode cX12_sooner 150 = .ok (.iconst 1, 1) := zk_of (zk_l (zk_l (zk_r (zk_l (zk_l zdX12_sooner_144)))))
theorem dX12_sooner_151 : decode cX12_sooner 151 = .ok (.iadd, 1) := zk_of (zk_r (zk_l (zk_r (zk_l (zk_l zdX12_sooner_144)))))
theorem dX12_sooner_152 : decode cX12_sooner 152 = .ok (.iload_n 2, 1) := zk_of (zk_l (zk_r (zk_r (zk_l (zk_l zdX12_sooner_144)))))
theorem dX12_sooner_153 : decode cX12_sooner 153 = .ok (.invokevirtual 469, 3) := zk_of (zk_r (zk_r (zk_r (zk_l (zk_l zdX12_sooner_144)))))
theorem dX12_sooner_156 : decode cX12_sooner 156 = .ok (.istore 10, 2) := zk_of (zk_l (zk_l (zk_l (zk_r (zk_l zdX12_sooner_144)))))
theorem dX12_sooner_158 : decode cX12_sooner 158 = .ok (.iload 10, 2) := zk_of (zk_r (zk_l (zk_l (zk_r (zk_l zdX12_sooner_144)))))
theorem dX12_sooner_160 : decode cX12_sooner 160 = .ok (.iconst (-1), 1) := zk_of (zk_l (zk_r (zk_l (zk_r (zk_l zdX12_sooner_144)))))
theorem dX12_sooner_161 : decode cX12_sooner 161 = .ok (.if_icmp .ne 6, 3) := zk_of (zk_r (zk_r (zk_l (zk_r (zk_l zdX12_sooner_144)))))
theorem dX12_sooner_167 : decode cX12_sooner 167 = .ok (.iload 10, 2) := zk_of (zk_l (zk_l (zk_r (zk_r (zk_l zdX12_sooner_144)))))
theorem dX12_sooner_169 : decode cX12_sooner 169 = .ok (.istore 6, 2) := zk_of (zk_r (zk_l (zk_r (zk_r (zk_l zdX12_sooner_144)))))
theorem dX12_sooner_171 : decode cX12_sooner 171 = .ok (.iload 8, 2) := zk_of (zk_l (zk_r (zk_r (zk_r (zk_l zdX12_sooner_144)))))
theorem dX12_sooner_173 : decode cX12_sooner 173 = .ok (.istore_n 3, 1) := zk_of (zk_r (zk_r (zk_r (zk_r (zk_l zdX12_sooner_144)))))
theorem dX12_sooner_174 : decode cX12_sooner 174 = .ok (.iload 9, 2) := zk_of (zk_l (zk_l (zk_l (zk_l (zk_r zdX12_sooner_144)))))
theorem dX12_sooner_176 : decode cX12_sooner 176 = .ok (.istore 4, 2) := zk_of (zk_r (zk_l (zk_l (zk_l (zk_r zdX12_sooner_144)))))
theorem dX12_sooner_178 : decode cX12_sooner 178 = .ok (.iload 7, 2) := zk_of (zk_l (zk_r (zk_l (zk_l (zk_r zdX12_sooner_144)))))
theorem dX12_sooner_180 : decode cX12_sooner 180 = .ok (.istore 5, 2) := zk_of (zk_r (zk_r (zk_l (zk_l (zk_r zdX12_sooner_144)))))
theorem dX12_sooner_182 : decode cX12_sooner 182 = .ok (.iload 10, 2) := zk_of (zk_l (zk_l (zk_r (zk_l (zk_r zdX12_sooner_144)))))
theorem dX12_sooner_184 : decode cX12_sooner 184 = .ok (.iconst 1, 1) := zk_of (zk_r (zk_l (zk_r (zk_l (zk_r zdX12_sooner_144)))))
theorem dX12_sooner_185 : decode cX12_sooner 185 = .ok (.isub, 1) := zk_of (zk_l (zk_r (zk_r (zk_l (zk_r zdX12_sooner_144)))))
theorem dX12_sooner_186 : decode cX12_sooner 186 = .ok (.istore_n 2, 1) := zk_of (zk_r (zk_r (zk_r (zk_l (zk_r zdX12_sooner_144)))))
theorem dX12_sooner_164 : decode cX12_sooner 164 = .ok (.goto 23, 3) := zk_of (zk_l (zk_l (zk_l (zk_r (zk_r zdX12_sooner_144)))))
theorem dX12_sooner_109 : decode cX12_sooner 109 = .ok (.goto 78, 3) := zk_of (zk_r (zk_l (zk_l (zk_r (zk_r zdX12_sooner_144)))))
theorem dX12_sooner_193 : decode cX12_sooner 193 = .ok (.iinc 8 1, 3) := zk_of (zk_l (zk_r (zk_l (zk_r (zk_r zdX12_sooner_144)))))
theorem dX12_sooner_196 : decode cX12_sooner 196 = .ok (.goto (-128), 3) := zk_of (zk_r (zk_r (zk_l (zk_r (zk_r zdX12_sooner_144)))))
theorem dX12_sooner_68 : decode cX12_sooner 68 = .ok (.iload 8, 2) := zk_of (zk_l (zk_l (zk_r (zk_r (zk_r zdX12_sooner_144)))))
theorem dX12_sooner_70 : decode cX12_sooner 70 = .ok (.aload_n 0, 1) := zk_of (zk_r (zk_l (zk_r (zk_r (zk_r zdX12_sooner_144)))))
theorem dX12_sooner_71 : decode cX12_sooner 71 = .ok (.getfield 439, 3) := zk_of (zk_l (zk_r (zk_r (zk_r (zk_r zdX12_sooner_144)))))
theorem dX12_sooner_74 : decode cX12_sooner 74 = .ok (.if_icmp .ge 125, 3) := zk_of (zk_r (zk_r (zk_r (zk_r (zk_r zdX12_sooner_144)))))
set_option maxRecDepth 20000 in
theorem ggX12_sooner_X12_metBy : GoodIn wsX12_sooner wsX12_metBy := ggi (fun w h => List.mem_cons_of_mem _ (List.mem_append_left _ (List.mem_append_right _ (List.mem_append_right _ (List.mem_append_left _ h))))) gs_X12_metBy
set_option maxRecDepth 20000 in
theorem gX12_sooner_X12_metBy : GoodIn wsX12_sooner (wsV RX12 469 RX12 yX12_metBy wsX12_metBy) := goodIn_app (goodIn_of _ (by decide +kernel)) ggX12_sooner_X12_metBy
theorem zdX12_sooner_77 : (and (and (and (and (and (zk cX12_sooner 77 (.iconst 0) 1) (zk cX12_sooner 78 (.istore 9) 2)) (and (zk cX12_sooner 199 (.iinc 7 1) 3) (zk cX12_sooner 202 (.goto (-143)) 3))) (and (and (zk cX12_sooner 59 (.iload 7) 2) (zk cX12_sooner 61 (.iload_n 2) 1)) (and (zk cX12_sooner 62 (.if_icmp .gt 143) 3) (zk cX12_sooner 65 (.iconst 0) 1)))) (and (and (and (zk cX12_sooner 66 (.istore 8) 2) (zk cX12_sooner 205 (.iload_n 1) 1)) (and (zk cX12_sooner 206 (.ifCond .ne 7) 3) (zk cX12_sooner 213 (.iload_n 1) 1))) (and (and (zk cX12_sooner 214 (.iconst 1) 1) (zk cX12_sooner 215 (.if_icmp .ne 8) 3)) (and (zk cX12_sooner 223 (.iload_n 1) 1) (zk cX12_sooner 224 (.iconst 2) 1))))) (and (and (and (and (zk cX12_sooner 225 (.if_icmp .ne 8) 3) (zk cX12_sooner 233 (.iload 6) 2)) (and (zk cX12_sooner 235 (.ireturn) 1) (zk cX12_sooner 228 (.iload 5) 2))) (and (and (zk cX12_sooner 230 (.goto 5) 3) (zk cX12_sooner 218 (.iload 4) 2)) (and (zk cX12_sooner 220 (.goto 15) 3) (zk cX12_sooner 209 (.iload_n 3) 1)))) (and (and (and (zk cX12_sooner 210 (.goto 25) 3) (zk cX12_sooner 44 (.istore_n 2) 1)) (and (zk cX12_sooner 45 (.iconst (-1)) 1) (zk cX12_sooner 46 (.istore_n 3) 1))) (and (and (zk cX12_sooner 47 (.iconst (-1)) 1) (zk cX12_sooner 48 (.istore 4) 2)) (and (zk cX12_sooner 50 (.iconst (-1)) 1) (zk cX12_sooner 51 (.istore 5) 2)))))) = true := by decide +kernel
theorem dX12_sooner_77 : decode cX12_sooner 77 = .ok (.iconst 0, 1) := zk_of (zk_l (zk_l (zk_l (zk_l (zk_l zdX12_sooner_77)))))
theorem dX12_sooner_78 : decode cX12_sooner 78 = .ok (.istore 9, 2) := zk_of (zk_r (zk_l (zk_l (zk_l (zk_l zdX12_sooner_77)))))
theorem dX12_sooner_199 : decode cX12_sooner 199 = .ok (.iinc 7 1, 3) := zk_of (zk_l (zk_r (zk_l (zk_l (zk_l zdX12_sooner_77)))))
theorem dX12_sooner_202 : decode cX12_sooner 202 = .ok (.goto (-143), 3) := zk_of (zk_r (zk_r (zk_l (zk_l (zk_l zdX12_sooner_77)))))
theorem dX12_sooner_59 : decode cX12_sooner 59 = .ok (.iload 7, 2) := zk_of (zk_l (zk_l (zk_r (zk_l (zk_l zdX12_sooner_77)))))
theorem dX12_sooner_61 : decode cX12_sooner 61 = .ok (.iload_n 2, 1) := zk_of (zk_r (zk_l (zk_r (zk_l (zk_l zdX12_sooner_77)))))
theorem dX12_sooner_62 : decode cX12_sooner 62 = .ok (.if_icmp .gt 143, 3) := zk_of (zk_l (zk_r (zk_r (zk_l (zk_l zdX12_sooner_77)))))
theorem dX12_sooner_65 : decode cX12_sooner 65 = .ok (.iconst 0, 1) := zk_of (zk_r (zk_r (zk_r (zk_l (zk_l zdX12_sooner_77)))))
theorem dX12_sooner_66 : decode cX12_sooner 66 = .ok (.istore 8, 2) := zk_of (zk_l (zk_l (zk_l (zk_r (zk_l zdX12_sooner_77)))))
theorem dX12_sooner_205 : decode cX12_sooner 205 = .ok (.iload_n 1, 1) := zk_of (zk_r (zk_l (zk_l (zk_r (zk_l zdX12_sooner_77)))))
theorem dX12_sooner_206 : decode cX12_sooner 206 = .ok (.ifCond .ne 7, 3) := zk_of (zk_l (zk_r (zk_l (zk_r (zk_l zdX12_sooner_77)))))
theorem dX12_sooner_213 : decode cX12_sooner 213 = .ok (.iload_n 1, 1) := zk_of (zk_r (zk_r (zk_l (zk_r (zk_l zdX12_sooner_77)))))
theorem dX12_sooner_214 : decode cX12_sooner 214 = .ok (.iconst 1, 1) := zk_of (zk_l (zk_l (zk_r (zk_r (zk_l zdX12_sooner_77)))))
theorem dX12_sooner_215 : decode cX12_sooner 215 = .ok (.if_icmp .ne 8, 3) := zk_of (zk_r (zk_l (zk_r (zk_r (zk_l zdX12_sooner_77)))))
theorem dX12_sooner_223 : decode cX12_sooner 223 = .ok (.iload_n 1, 1) := zk_of (zk_l (zk_r (zk_r (zk_r (zk_l zdX12_sooner_77)))))
theorem dX12_sooner_224 : decode cX12_sooner 224 = .ok (.iconst 2, 1) := zk_of (zk_r (zk_r (zk_r (zk_r (zk_l zdX12_sooner_77)))))
theorem dX12_sooner_225 : decode cX12_sooner 225 = .ok (.if_icmp .ne 8, 3) := zk_of (zk_l (zk_l (zk_l (zk_l (zk_r zdX12_sooner_77)))))
theorem dX12_sooner_233 : decode cX12_sooner 233 = .ok (.iload 6, 2) := zk_of (zk_r (zk_l (zk_l (zk_l (zk_r zdX12_sooner_77)))))
theorem dX12_sooner_235 : decode cX12_sooner 235 = .ok (.ireturn, 1) := zk_of (zk_l (zk_r (zk_l (zk_l (zk_r zdX12_sooner_77)))))
theorem dX12_sooner_228 : decode cX12_sooner 228 = .ok (.iload 5, 2) := zk_of (zk_r (zk_r (zk_l (zk_l (zk_r zdX12_sooner_77)))))
theorem dX12_sooner_230 : decode cX12_sooner 230 = .ok (.goto 5, 3) := zk_of (zk_l (zk_l (zk_r (zk_l (zk_r zdX12_sooner_77)))))
theorem dX12_sooner_218 : decode cX12_sooner 218 = .ok (.iload 4, 2) := zk_of (zk_r (zk_l (zk_r (zk_l (zk_r zdX12_sooner_77)))))
theorem dX12_sooner_220 : decode cX12_sooner 220 = .ok (.goto 15, 3) := zk_of (zk_l (zk_r (zk_r (zk_l (zk_r zdX12_sooner_77)))))
theorem dX12_sooner_209 : decode cX12_sooner 209 = .ok (.iload_n 3, 1) := zk_of (zk_r (zk_r (zk_r (zk_l (zk_r zdX12_sooner_77)))))
theorem dX12_sooner_210 : decode cX12_sooner 210 = .ok (.goto 25, 3) := zk_of (zk_l (zk_l (zk_l (zk_r (zk_r zdX12_sooner_77)))))
theorem dX12_sooner_44 : decode cX12_sooner 44 = .ok (.istore_n 2, 1) := zk_of (zk_r (zk_l (zk_l (zk_r (zk_r zdX12_sooner_77)))))
theorem dX12_sooner_45 : decode cX12_sooner 45 = .ok (.iconst (-1), 1) := zk_of (zk_l (zk_r (zk_l (zk_r (zk_r zdX12_sooner_77)))))
theorem dX12_sooner_46 : decode cX12_sooner 46 = .ok (.istore_n 3, 1) := zk_of (zk_r (zk_r (zk_l (zk_r (zk_r zdX12_sooner_77)))))
theorem dX12_sooner_47 : decode cX12_sooner 47 = .ok (.iconst (-1), 1) := zk_of (zk_l (zk_l (zk_r (zk_r (zk_r zdX12_sooner_77)))))
theorem dX12_sooner_48 : decode cX12_sooner 48 = .ok (.istore 4, 2) := zk_of (zk_r (zk_l (zk_r (zk_r (zk_r zdX12_sooner_77)))))
theorem dX12_sooner_50 : decode cX12_sooner 50 = .ok (.iconst (-1), 1) := zk_of (zk_l (zk_r (zk_r (zk_r (zk_r zdX12_sooner_77)))))
theorem dX12_sooner_51 : decode cX12_sooner 51 = .ok (.istore 5, 2) := zk_of (zk_r (zk_r (zk_r (zk_r (zk_r zdX12_sooner_77)))))
theorem zdX12_sooner_53 : (and (and (and (and (and (zk cX12_sooner 53 (.iconst (-1)) 1) (zk cX12_sooner 54 (.istore 6) 2)) (and (zk cX12_sooner 56 (.iconst 0) 1) (zk cX12_sooner 57 (.istore 7) 2))) (and (and (zk cX12_sooner 0 (.aload_n 0) 1) (zk cX12_sooner 1 (.iconst 0) 1)) (and (zk cX12_sooner 2 (.putfield 151) 3) (zk cX12_sooner 5 (.iload_n 1) 1)))) (and (and (and (zk cX12_sooner 6 (.iconst 0) 1) (zk cX12_sooner 7 (.iconst 3) 1)) (and (zk cX12_sooner 8 (.invokestatic 155) 3) (zk cX12_sooner 11 (.ifCond .ne 5) 3))) (and (and (zk cX12_sooner 16 (.aload_n 0) 1) (zk cX12_sooner 17 (.aload_n 0) 1)) (zk cX12_sooner 18 (.getfield 451) 3)))) (and (and (and (and (zk cX12_sooner 21 (.aload_n 0) 1) (zk cX12_sooner 22 (.getfield 159) 3)) (and (zk cX12_sooner 25 (.invokevirtual 469) 3) (zk cX12_sooner 28 (.istore_n 2) 1))) (and (and (zk cX12_sooner 29 (.iload_n 2) 1) (zk cX12_sooner 30 (.iconst (-1)) 1)) (and (zk cX12_sooner 31 (.if_icmp .ne 10) 3) (zk cX12_sooner 41 (.iload_n 2) 1)))) (and (and (and (zk cX12_sooner 42 (.iconst 1) 1) (zk cX12_sooner 43 (.isub) 1)) (and (zk cX12_sooner 34 (.aload_n 0) 1) (zk cX12_sooner 35 (.getfield 159) 3))) (and (and (zk cX12_sooner 38 (.goto 6) 3) (zk cX12_sooner 14 (.iconst (-1)) 1)) (zk cX12_sooner 15 (.ireturn) 1))))) = true := by decide +kernel
theorem dX12_sooner_53 : decode cX12_sooner 53 = .ok (.iconst (-1), 1) := zk_of (zk_l (zk_l (zk_l (zk_l (zk_l zdX12_sooner_53)))))
theorem dX12_sooner_54 : decode cX12_sooner 54 = .ok (.istore 6, 2) := zk_of (zk_r (zk_l (zk_l (zk_l (zk_l zdX12_sooner_53)))))
theorem dX12_sooner_56 : decode cX12_sooner 56 = .ok (.iconst 0, 1) := zk_of (zk_l (zk_r (zk_l (zk_l (zk_l zdX12_sooner_53)))))
theorem dX12_sooner_57 : decode cX12_sooner 57 = .ok (.istore 7, 2) := zk_of (zk_r (zk_r (zk_l (zk_l (zk_l zdX12_sooner_53)))))
theorem dX12_sooner_0 : decode cX12_sooner 0 = .ok (.aload_n 0, 1) := zk_of (zk_l (zk_l (zk_r (zk_l (zk_l zdX12_sooner_53)))))
theorem dX12_sooner_1 : decode cX12_sooner 1 = .ok (.iconst 0, 1) := zk_of (zk_r (zk_l (zk_r (zk_l (zk_l zdX12_sooner_53)))))
theorem dX12_sooner_2 : decode cX12_sooner 2 = .ok (.putfield 151, 3) := zk_of (zk_l (zk_r (zk_r (zk_l (zk_l zdX12_sooner_53)))))
theorem dX12_sooner_5 : decode cX12_sooner 5 = .ok (.iload_n 1, 1) := zk_of (zk_r (zk_r (zk_r (zk_l (zk_l zdX12_sooner_53)))))
theorem dX12_sooner_6 : decode cX12_sooner 6 = .ok (.iconst 0, 1) := zk_of (zk_l (zk_l (zk_l (zk_r (zk_l zdX12_sooner_53)))))
theorem dX12_sooner_7 : decode cX12_sooner 7 = .ok (.iconst 3, 1) := zk_of (zk_r (zk_l (zk_l (zk_r (zk_l zdX12_sooner_53)))))
theorem dX12_sooner_8 : decode cX12_sooner 8 = .ok (.invokestatic 155, 3) := zk_of (zk_l (zk_r (zk_l (zk_r (zk_l zdX12_sooner_53)))))
theorem dX12_sooner_11 : decode cX12_sooner 11 = .ok (.ifCond .ne 5, 3) := zk_of (zk_r (zk_r (zk_l (zk_r (zk_l zdX12_sooner_53)))))
theorem dX12_sooner_16 : decode cX12_sooner 16 = .ok (.aload_n 0, 1) := zk_of (zk_l (zk_l (zk_r (zk_r (zk_l zdX12_sooner_53)))))
theorem dX12_sooner_17 : decode cX12_sooner 17 = .ok (.aload_n 0, 1) := zk_of (zk_r (zk_l (zk_r (zk_r (zk_l zdX12_sooner_53)))))
theorem dX12_sooner_18 : decode cX12_sooner 18 = .ok (.getfield 451, 3) := zk_of (zk_r (zk_r (zk_r (zk_l zdX12_sooner_53))))
theorem dX12_sooner_21 : decode cX12_sooner 21 = .ok (.aload_n 0, 1) := zk_of (zk_l (zk_l (zk_l (zk_l (zk_r zdX12_sooner_53)))))
theorem dX12_sooner_22 : decode cX12_sooner 22 = .ok (.getfield 159, 3) := zk_of (zk_r (zk_l (zk_l (zk_l (zk_r zdX12_sooner_53)))))
theorem dX12_sooner_25 : decode cX12_sooner 25 = .ok (.invokevirtual 469, 3) := zk_of (zk_l (zk_r (zk_l (zk_l (zk_r zdX12_sooner_53)))))
theorem dX12_sooner_28 : decode cX12_sooner 28 = .ok (.istore_n 2, 1) := zk_of (zk_r (zk_r (zk_l (zk_l (zk_r zdX12_sooner_53)))))
theorem dX12_sooner_29 : decode cX12_sooner 29 = .ok (.iload_n 2, 1) := zk_of (zk_l (zk_l (zk_r (zk_l (zk_r zdX12_sooner_53)))))
theorem dX12_sooner_30 : decode cX12_sooner 30 = .ok (.iconst (-1), 1) := zk_of (zk_r (zk_l (zk_r (zk_l (zk_r zdX12_sooner_53)))))
theorem dX12_sooner_31 : decode cX12_sooner 31 = .ok (.if_icmp .ne 10, 3) := zk_of (zk_l (zk_r (zk_r (zk_l (zk_r zdX12_sooner_53)))))
theorem dX12_sooner_41 : decode cX12_sooner 41 = .ok (.iload_n 2, 1) := zk_of (zk_r (zk_r (zk_r (zk_l (zk_r zdX12_sooner_53)))))
theorem dX12_sooner_42 : decode cX12_sooner 42 = .ok (.iconst 1, 1) := zk_of (zk_l (zk_l (zk_l (zk_r (zk_r zdX12_sooner_53)))))
theorem dX12_sooner_43 : decode cX12_sooner 43 = .ok (.isub, 1) := zk_of (zk_r (zk_l (zk_l (zk_r (zk_r zdX12_sooner_53)))))
theorem dX12_sooner_34 : decode cX12_sooner 34 = .ok (.aload_n 0, 1) := zk_of (zk_l (zk_r (zk_l (zk_r (zk_r zdX12_sooner_53)))))
theorem dX12_sooner_35 : decode cX12_sooner 35 = .ok (.getfield 159, 3) := zk_of (zk_r (zk_r (zk_l (zk_r (zk_r zdX12_sooner_53)))))
theorem dX12_sooner_38 : decode cX12_sooner 38 = .ok (.goto 6, 3) := zk_of (zk_l (zk_l (zk_r (zk_r (zk_r zdX12_sooner_53)))))
theorem dX12_sooner_14 : decode cX12_sooner 14 = .ok (.iconst (-1), 1) := zk_of (zk_r (zk_l (zk_r (zk_r (zk_r zdX12_sooner_53)))))
theorem dX12_sooner_15 : decode cX12_sooner 15 = .ok (.ireturn, 1) := zk_of (zk_r (zk_r (zk_r (zk_r zdX12_sooner_53))))
set_option maxRecDepth 20000 in
theorem ggX12_sooner_X12_isIn : GoodIn wsX12_sooner wsX12_isIn := ggi (fun w h => List.mem_cons_of_mem _ (List.mem_append_left _ (List.mem_append_right _ (List.mem_append_right _ (List.mem_append_right _ h))))) gs_X12_isIn
set_option maxRecDepth 20000 in
theorem gX12_sooner_X12_isIn : GoodIn wsX12_sooner (va_wsS RX12 155 yX12_isIn wsX12_isIn) := goodIn_app (goodIn_of _ (by decide +kernel)) ggX12_sooner_X12_isIn
/-- HissHornModel.sooner(I)I of cell 0 -/
def rmX12_sooner_0 : Room := { frames := 4, cells := 0, slots := 0, locals := 92 }
theorem hX12_sooner_0_X12 : ∀ w ∈ u_ws RX12 TX12 69, w ∈ wsX12_sooner := fun w h => (List.mem_cons_of_mem _ (List.mem_append_right _ h))
theorem mX12_sooner_0_1 : Cond.fieldLink RX12 151 "HissHornModel" "thrown" "I" ∈ wsX12_sooner := (List.mem_cons_of_mem _ (List.mem_append_left _ (List.mem_append_left _ (List.mem_of_getElem? (i := 9) rfl))))
theorem mX12_sooner_0_2 : Cond.fieldLink RX12 451 "HissHornModel" "letterMany" "I" ∈ wsX12_sooner := (List.mem_cons_of_mem _ (List.mem_append_left _ (List.mem_append_left _ (List.mem_of_getElem? (i := 10) rfl))))
theorem mX12_sooner_0_3 : Cond.fieldLink RX12 159 "HissHornModel" "now" "I" ∈ wsX12_sooner := (List.mem_cons_of_mem _ (List.mem_append_left _ (List.mem_append_left _ (List.mem_of_getElem? (i := 11) rfl))))
theorem mX12_sooner_0_4 : Cond.fieldLink RX12 439 "HissHornModel" "houses" "I" ∈ wsX12_sooner := (List.mem_cons_of_mem _ (List.mem_append_left _ (List.mem_append_left _ (List.mem_of_getElem? (i := 12) rfl))))
def GX12_sooner_0_187 (k80 : Int32 → Int32 → Int32 → Int32 → Int32 → Int32 → Int32 → Int32 → Int32 → SX → Option (Int32 × SX)) (z1 : Int32) (z2 : Int32) (z3 : Int32) (z4 : Int32) (z5 : Int32) (z6 : Int32) (z7 : Int32) (z8 : Int32) (z9 : Int32) (u : SX) : Option (Int32 × SX) := (k80 z1 z2 z3 z4 z5 z6 z7 z8 (z9 + 1) u)
theorem mX12_sooner_0_5 : Cond.fieldLink RX12 136 "HissHornModel" "letterFrom" "[I" ∈ wsX12_sooner := (List.mem_cons_of_mem _ (List.mem_append_left _ (List.mem_append_left _ (List.mem_of_getElem? (i := 13) rfl))))
theorem mX12_sooner_0_6 : Cond.fieldLink RX12 139 "HissHornModel" "letterTo" "[I" ∈ wsX12_sooner := (List.mem_cons_of_mem _ (List.mem_append_left _ (List.mem_append_left _ (List.mem_of_getElem? (i := 14) rfl))))
theorem mX12_sooner_0_7 : Cond.fieldLink RX12 142 "HissHornModel" "letterDay" "[I" ∈ wsX12_sooner := (List.mem_cons_of_mem _ (List.mem_append_left _ (List.mem_append_left _ (List.mem_of_getElem? (i := 15) rfl))))
def LX12_sooner_0_80 (k193 : Int32 → Int32 → Int32 → Int32 → Int32 → Int32 → Int32 → Int32 → SX → Option (Int32 × SX)) : Nat → Int32 → Int32 → Int32 → Int32 → Int32 → Int32 → Int32 → Int32 → Int32 → SX → Option (Int32 × SX)
  | 0, _, _, _, _, _, _, _, _, _, _ => none
  | n + 1, z1, z2, z3, z4, z5, z6, z7, z8, z9, u => (if (u.1 22) ≤ z9 then (k193 z1 z2 z3 z4 z5 z6 z7 z8 u) else (if z8 = z9 then (GX12_sooner_0_187 (LX12_sooner_0_80 k193 n) z1 z2 z3 z4 z5 z6 z7 z8 z9 u) else ((fX12_wasSent_0 z8 z9 z7 u).bind fun q => match q with | (r9, u10) => (if r9 = 0 then (gd (inb (u10.1 25) 61) (lt (sA u10 39 (upd (u10.2.1 39) (u10.1 25).toNatClampNeg z8)) fun u13 => (gd (inb (u13.1 25) 61) (lt (sA u13 40 (upd (u13.2.1 40) (u13.1 25).toNatClampNeg z9)) fun u16 => (gd (inb (u16.1 25) 61) (lt (sA u16 41 (upd (u16.2.1 41) (u16.1 25).toNatClampNeg z7)) fun u19 => ((fX12_metBy_0 ((u19.1 25) + 1) z2 u19).bind fun q => match q with | (r21, u22) => (if r21 = (-1) then (GX12_sooner_0_187 (LX12_sooner_0_80 k193 n) z1 z2 z3 z4 z5 z6 z7 z8 z9 u22) else (lt (r21 - 1) fun v24 => (GX12_sooner_0_187 (LX12_sooner_0_80 k193 n) z1 v24 z8 z9 z7 r21 z7 z8 z9 u22)))))))))) else (GX12_sooner_0_187 (LX12_sooner_0_80 k193 n) z1 z2 z3 z4 z5 z6 z7 z8 z9 u10)))))
def GX12_sooner_0_193 (k68 : Int32 → Int32 → Int32 → Int32 → Int32 → Int32 → Int32 → Int32 → SX → Option (Int32 × SX)) (z1 : Int32) (z2 : Int32) (z3 : Int32) (z4 : Int32) (z5 : Int32) (z6 : Int32) (z7 : Int32) (z8 : Int32) (u : SX) : Option (Int32 × SX) := (k68 z1 z2 z3 z4 z5 z6 z7 (z8 + 1) u)
def LX12_sooner_0_68 (k199 : Int32 → Int32 → Int32 → Int32 → Int32 → Int32 → Int32 → SX → Option (Int32 × SX)) : Nat → Int32 → Int32 → Int32 → Int32 → Int32 → Int32 → Int32 → Int32 → SX → Option (Int32 × SX)
  | 0, _, _, _, _, _, _, _, _, _ => none
  | n + 1, z1, z2, z3, z4, z5, z6, z7, z8, u => (if (u.1 22) ≤ z8 then (k199 z1 z2 z3 z4 z5 z6 z7 u) else (LX12_sooner_0_80 (GX12_sooner_0_193 (LX12_sooner_0_68 k199 n)) 5000 z1 z2 z3 z4 z5 z6 z7 z8 0 u))
def GX12_sooner_0_199 (k59 : Int32 → Int32 → Int32 → Int32 → Int32 → Int32 → Int32 → SX → Option (Int32 × SX)) (z1 : Int32) (z2 : Int32) (z3 : Int32) (z4 : Int32) (z5 : Int32) (z6 : Int32) (z7 : Int32) (u : SX) : Option (Int32 × SX) := (k59 z1 z2 z3 z4 z5 z6 (z7 + 1) u)
def LX12_sooner_0_59 (k205 : Int32 → Int32 → Int32 → Int32 → Int32 → SX → Option (Int32 × SX)) : Nat → Int32 → Int32 → Int32 → Int32 → Int32 → Int32 → Int32 → SX → Option (Int32 × SX)
  | 0, _, _, _, _, _, _, _, _ => none
  | n + 1, z1, z2, z3, z4, z5, z6, z7, u => (if z2 < z7 then (k205 z1 z3 z4 z5 z6 u) else (LX12_sooner_0_68 (GX12_sooner_0_199 (LX12_sooner_0_59 k205 n)) 5000 z1 z2 z3 z4 z5 z6 z7 0 u))
def GX12_sooner_0_205 (z1 : Int32) (z3 : Int32) (z4 : Int32) (z5 : Int32) (z6 : Int32) (u : SX) : Option (Int32 × SX) := (if z1 = 0 then (some (z3, u)) else (if z1 = 1 then (some (z4, u)) else (if z1 = 2 then (some (z5, u)) else (some (z6, u)))))
def GX12_sooner_0_44 (z1 : Int32) (y0 : Int32) (u : SX) : Option (Int32 × SX) := (LX12_sooner_0_59 GX12_sooner_0_205 5000 z1 y0 (-1) (-1) (-1) (-1) 0 u)
def fX12_sooner_0 (x1 : Int32) (u : SX) : Option (Int32 × SX) := (lt (sI u 0 0) fun u1 => ((fX12_isIn x1 0 3).bind fun r3 => (if r3 = 0 then (some ((-1), u1)) else ((fX12_metBy_0 (u1.1 25) (u1.1 1) u1).bind fun q => match q with | (r6, u7) => (if r6 = (-1) then (GX12_sooner_0_44 x1 (u7.1 1) u7) else (GX12_sooner_0_44 x1 (r6 - 1) u7))))))
set_option maxHeartbeats 4000000 in
set_option maxRecDepth 100000 in
theorem wGX12_sooner_0_187 {p : Program} {l : Launch} {e : Env} {s : State} {m : MethodId} {args : Array Value} {below : List Frame} {meth : Method} {c : Code} {D : va_G} {cy : Nat → ClassId} {ad st : Nat → Nat} (C : Cx RX12 cX12_sooner 11 (some .int) wsX12_sooner p s m args meth c) (hK : Ky D [(cy 0, .int), (cy 1, .long), (cy 2, .boolean), (cy 3, .byte), (cy 4, .object "HissHorn$Text")] st s) (hJ : JM ad st) {r : Int32} {u' : SX} {k80 : Int32 → Int32 → Int32 → Int32 → Int32 → Int32 → Int32 → Int32 → Int32 → SX → Option (Int32 × SX)} (hk80 : ∀ (z1 : Int32) (z2 : Int32) (z3 : Int32) (z4 : Int32) (z5 : Int32) (z6 : Int32) (z7 : Int32) (z8 : Int32) (z9 : Int32) (u : SX) (H : Heap) (locs : List Loc) (ls : Array Slot), k80 z1 z2 z3 z4 z5 z6 z7 z8 z9 u = some (r, u') → va_P D vwCl (VM cy ad st u) H → va_S (Ax (AM ad) s.heap.size) s.heap H locs → lv_has ls 11 [(0, .ref (ad 0)), (1, .int z1), (2, .int z2), (3, .int z3), (4, .int z4), (5, .int z5), (6, .int z6), (7, .int z7), (8, .int z8), (9, .int z9)] → W p l e rmX12_sooner_0 s m args below meth c H locs 0 0 (MQ below (Qi D (VM cy ad st) (AM ad) s.heap.size r u') args s 0 0 (Ax (AM ad) s.heap.size)) (F0 m 80 ls [])) (z1 : Int32) (z2 : Int32) (z3 : Int32) (z4 : Int32) (z5 : Int32) (z6 : Int32) (z7 : Int32) (z8 : Int32) (z9 : Int32) (u : SX) (H : Heap) (locs : List Loc) (ls : Array Slot) (h : GX12_sooner_0_187 k80 z1 z2 z3 z4 z5 z6 z7 z8 z9 u = some (r, u')) (hP : va_P D vwCl (VM cy ad st u) H) (hS : va_S (Ax (AM ad) s.heap.size) s.heap H locs) (hl : lv_has ls 11 [(0, .ref (ad 0)), (1, .int z1), (2, .int z2), (3, .int z3), (4, .int z4), (5, .int z5), (6, .int z6), (7, .int z7), (8, .int z8), (9, .int z9)]) : W p l e rmX12_sooner_0 s m args below meth c H locs 0 0 (MQ below (Qi D (VM cy ad st) (AM ad) s.heap.size r u') args s 0 0 (Ax (AM ad) s.heap.size)) (F0 m 187 ls []) := by
  unfold GX12_sooner_0_187 at h
  refine lv_iinc (v := z9 + 1) (lv' := [(9, .int (z9 + 1)), (0, .ref (ad 0)), (1, .int z1), (2, .int z2), (3, .int z3), (4, .int z4), (5, .int z5), (6, .int z6), (7, .int z7), (8, .int z8)]) C.1 C.2.1 dX12_sooner_187 hl (k := 9) rfl rfl (by decide) rfl (fun ls hl => ?_)
  replace hl := lv_sub (l' := [(0, .ref (ad 0)), (1, .int z1), (2, .int z2), (3, .int z3), (4, .int z4), (5, .int z5), (6, .int z6), (7, .int z7), (8, .int z8), (9, .int (z9 + 1))]) hl [1, 2, 3, 4, 5, 6, 7, 8, 9, 0] rfl
  refine lv_goto (tgt := 80) C.1 C.2.1 dX12_sooner_190 (by decide) ?_
  exact hk80 _ _ _ _ _ _ _ _ _ _ _ _ _ h hP hS hl
set_option maxHeartbeats 4000000 in
set_option maxRecDepth 100000 in
theorem wLX12_sooner_0_80 {p : Program} {l : Launch} {e : Env} {s : State} {m : MethodId} {args : Array Value} {below : List Frame} {meth : Method} {c : Code} {D : va_G} {cy : Nat → ClassId} {ad st : Nat → Nat} (C : Cx RX12 cX12_sooner 11 (some .int) wsX12_sooner p s m args meth c) (hK : Ky D [(cy 0, .int), (cy 1, .long), (cy 2, .boolean), (cy 3, .byte), (cy 4, .object "HissHorn$Text")] st s) (hJ : JM ad st) {r : Int32} {u' : SX} {k193 : Int32 → Int32 → Int32 → Int32 → Int32 → Int32 → Int32 → Int32 → SX → Option (Int32 × SX)} (hk193 : ∀ (z1 : Int32) (z2 : Int32) (z3 : Int32) (z4 : Int32) (z5 : Int32) (z6 : Int32) (z7 : Int32) (z8 : Int32) (u : SX) (H : Heap) (locs : List Loc) (ls : Array Slot), k193 z1 z2 z3 z4 z5 z6 z7 z8 u = some (r, u') → va_P D vwCl (VM cy ad st u) H → va_S (Ax (AM ad) s.heap.size) s.heap H locs → lv_has ls 11 [(0, .ref (ad 0)), (1, .int z1), (2, .int z2), (3, .int z3), (4, .int z4), (5, .int z5), (6, .int z6), (7, .int z7), (8, .int z8)] → W p l e rmX12_sooner_0 s m args below meth c H locs 0 0 (MQ below (Qi D (VM cy ad st) (AM ad) s.heap.size r u') args s 0 0 (Ax (AM ad) s.heap.size)) (F0 m 193 ls [])) : ∀ (n : Nat) (z1 : Int32) (z2 : Int32) (z3 : Int32) (z4 : Int32) (z5 : Int32) (z6 : Int32) (z7 : Int32) (z8 : Int32) (z9 : Int32) (u : SX) (H : Heap) (locs : List Loc) (ls : Array Slot), LX12_sooner_0_80 k193 n z1 z2 z3 z4 z5 z6 z7 z8 z9 u = some (r, u') → va_P D vwCl (VM cy ad st u) H → va_S (Ax (AM ad) s.heap.size) s.heap H locs → lv_has ls 11 [(0, .ref (ad 0)), (1, .int z1), (2, .int z2), (3, .int z3), (4, .int z4), (5, .int z5), (6, .int z6), (7, .int z7), (8, .int z8), (9, .int z9)] → W p l e rmX12_sooner_0 s m args below meth c H locs 0 0 (MQ below (Qi D (VM cy ad st) (AM ad) s.heap.size r u') args s 0 0 (Ax (AM ad) s.heap.size)) (F0 m 80 ls []) := by
  intro n
  induction n with
  | zero =>
    intro z1 z2 z3 z4 z5 z6 z7 z8 z9 u H locs ls h
    exact absurd h (by intro q; cases q)
  | succ n ih =>
    intro z1 z2 z3 z4 z5 z6 z7 z8 z9 u H locs ls h hP hS hl
    rw [LX12_sooner_0_80] at h
    refine lv_iload C.1 C.2.1 dX12_sooner_80 (lv_at hl 9 rfl) ?_
    refine lv_aload_n C.1 C.2.1 dX12_sooner_82 rfl (lv_at hl 0 rfl) ?_
    refine gM_0_houses C hX12_sooner_0_X12 hK hP mX12_sooner_0_4 dX12_sooner_83 ?_
    refine lv_icmp_ge (tgt := 193) C.1 C.2.1 dX12_sooner_86 (by decide) (fun c86 => ?_) (fun c86 => ?_)
    · rw [if_pos c86] at h
      exact hk193 _ _ _ _ _ _ _ _ _ _ _ _ h hP hS (lv_sub hl [0, 1, 2, 3, 4, 5, 6, 7, 8] rfl)
    · rw [if_neg c86] at h
      refine lv_iload C.1 C.2.1 dX12_sooner_89 (lv_at hl 8 rfl) ?_
      refine lv_iload C.1 C.2.1 dX12_sooner_91 (lv_at hl 9 rfl) ?_
      refine lv_icmp_eq (tgt := 187) C.1 C.2.1 dX12_sooner_93 (by decide) (fun c93 => ?_) (fun c93 => ?_)
      · rw [if_pos c93] at h
        exact wGX12_sooner_0_187 C hK hJ ih _ _ _ _ _ _ _ _ _ _ _ _ _ h hP hS hl
      · rw [if_neg c93] at h
        refine lv_aload_n C.1 C.2.1 dX12_sooner_96 rfl (lv_at hl 0 rfl) ?_
        refine lv_iload C.1 C.2.1 dX12_sooner_97 (lv_at hl 8 rfl) ?_
        refine lv_iload C.1 C.2.1 dX12_sooner_99 (lv_at hl 9 rfl) ?_
        refine lv_iload C.1 C.2.1 dX12_sooner_101 (lv_at hl 7 rfl) ?_
        obtain ⟨⟨r9, u10⟩, hc11, h⟩ := bd_some h
        try dsimp only at h
        refine cg_i (As := [.int z8, .int z9, .int z7]) (rest := []) (AM_ge hJ) C hK hP hS (metX12_wasSent_0 l D cy ad st hJ _ z8 z9 z7 hc11) (cwV 3 C.2.2.2.2.2.1 gX12_sooner_X12_wasSent rfl rfl rfl (by decide +kernel) ⟨(Nat.le_of_ble_eq_true rfl), (Nat.le_of_ble_eq_true rfl)⟩) 0 12 rfl rfl rfl hl.1 rfl (Nat.le_of_ble_eq_true rfl) dX12_sooner_103 ⟨Nat.zero_le _, Nat.zero_le _⟩ (fun H locs hP hS => ?_)
        refine lv_if_eq (tgt := 112) C.1 C.2.1 dX12_sooner_106 (by decide) (fun c106 => ?_) (fun c106 => ?_)
        · rw [if_pos c106] at h
          refine lv_aload_n C.1 C.2.1 dX12_sooner_112 rfl (lv_at hl 0 rfl) ?_
          refine gM_0_letterFrom C hX12_sooner_0_X12 hK hP mX12_sooner_0_5 dX12_sooner_113 ?_
          refine lv_aload_n C.1 C.2.1 dX12_sooner_116 rfl (lv_at hl 0 rfl) ?_
          refine gM_0_letterMany C hX12_sooner_0_X12 hK hP mX12_sooner_0_2 dX12_sooner_117 ?_
          refine lv_iload C.1 C.2.1 dX12_sooner_120 (lv_at hl 8 rfl) ?_
          obtain ⟨hg12, h⟩ := gd_some h
          refine tM_39 C hK hP hJ hS hg12 dX12_sooner_122 (fun H locs hP hS => ?_)
          obtain ⟨u13, hu14, h⟩ := lt_some h
          rw [← hu14] at hP
          refine lv_aload_n C.1 C.2.1 dX12_sooner_123 rfl (lv_at hl 0 rfl) ?_
          refine gM_0_letterTo C hX12_sooner_0_X12 hK hP mX12_sooner_0_6 dX12_sooner_124 ?_
          refine lv_aload_n C.1 C.2.1 dX12_sooner_127 rfl (lv_at hl 0 rfl) ?_
          refine gM_0_letterMany C hX12_sooner_0_X12 hK hP mX12_sooner_0_2 dX12_sooner_128 ?_
          refine lv_iload C.1 C.2.1 dX12_sooner_131 (lv_at hl 9 rfl) ?_
          obtain ⟨hg15, h⟩ := gd_some h
          refine tM_40 C hK hP hJ hS hg15 dX12_sooner_133 (fun H locs hP hS => ?_)
          obtain ⟨u16, hu17, h⟩ := lt_some h
          rw [← hu17] at hP
          refine lv_aload_n C.1 C.2.1 dX12_sooner_134 rfl (lv_at hl 0 rfl) ?_
          refine gM_0_letterDay C hX12_sooner_0_X12 hK hP mX12_sooner_0_7 dX12_sooner_135 ?_
          refine lv_aload_n C.1 C.2.1 dX12_sooner_138 rfl (lv_at hl 0 rfl) ?_
          refine gM_0_letterMany C hX12_sooner_0_X12 hK hP mX12_sooner_0_2 dX12_sooner_139 ?_
          refine lv_iload C.1 C.2.1 dX12_sooner_142 (lv_at hl 7 rfl) ?_
          obtain ⟨hg18, h⟩ := gd_some h
          refine tM_41 C hK hP hJ hS hg18 dX12_sooner_144 (fun H locs hP hS => ?_)
          obtain ⟨u19, hu20, h⟩ := lt_some h
          rw [← hu20] at hP
          refine lv_aload_n C.1 C.2.1 dX12_sooner_145 rfl (lv_at hl 0 rfl) ?_
          refine lv_aload_n C.1 C.2.1 dX12_sooner_146 rfl (lv_at hl 0 rfl) ?_
          refine gM_0_letterMany C hX12_sooner_0_X12 hK hP mX12_sooner_0_2 dX12_sooner_147 ?_
          refine lv_iconst (v := 1) C.1 C.2.1 dX12_sooner_150 (by decide) ?_
          refine lv_iadd C.1 C.2.1 dX12_sooner_151 ?_
          refine lv_iload_n C.1 C.2.1 dX12_sooner_152 rfl (lv_at hl 2 rfl) ?_
          obtain ⟨⟨r21, u22⟩, hc23, h⟩ := bd_some h
          try dsimp only at h
          refine cg_i (As := [.int ((u19.1 25) + 1), .int z2]) (rest := []) (AM_ge hJ) C hK hP hS (metX12_metBy_0 l D cy ad st hJ _ ((u19.1 25) + 1) z2 hc23) (cwV 2 C.2.2.2.2.2.1 gX12_sooner_X12_metBy rfl rfl rfl (by decide +kernel) ⟨(Nat.le_of_ble_eq_true rfl), (Nat.le_of_ble_eq_true rfl)⟩) 0 12 rfl rfl rfl hl.1 rfl (Nat.le_of_ble_eq_true rfl) dX12_sooner_153 ⟨Nat.zero_le _, Nat.zero_le _⟩ (fun H locs hP hS => ?_)
          refine lv_istore (lv' := [(10, .int r21), (0, .ref (ad 0)), (1, .int z1), (2, .int z2), (3, .int z3), (4, .int z4), (5, .int z5), (6, .int z6), (7, .int z7), (8, .int z8), (9, .int z9)]) C.1 C.2.1 dX12_sooner_156 hl (by decide) rfl (fun ls hl => ?_)
          replace hl := lv_sub (l' := [(0, .ref (ad 0)), (1, .int z1), (2, .int z2), (3, .int z3), (4, .int z4), (5, .int z5), (6, .int z6), (7, .int z7), (8, .int z8), (9, .int z9), (10, .int r21)]) hl [1, 2, 3, 4, 5, 6, 7, 8, 9, 10, 0] rfl
          refine lv_iload C.1 C.2.1 dX12_sooner_158 (lv_at hl 10 rfl) ?_
          refine lv_iconst (v := (-1)) C.1 C.2.1 dX12_sooner_160 (by decide) ?_
          refine lv_icmp_ne (tgt := 167) C.1 C.2.1 dX12_sooner_161 (by decide) (fun c161 => ?_) (fun c161 => ?_)
          · rw [if_neg c161] at h
            refine lv_iload C.1 C.2.1 dX12_sooner_167 (lv_at hl 10 rfl) ?_
            refine lv_istore (lv' := [(6, .int r21), (0, .ref (ad 0)), (1, .int z1), (2, .int z2), (3, .int z3), (4, .int z4), (5, .int z5), (7, .int z7), (8, .int z8), (9, .int z9), (10, .int r21)]) C.1 C.2.1 dX12_sooner_169 hl (by decide) rfl (fun ls hl => ?_)
            replace hl := lv_sub (l' := [(0, .ref (ad 0)), (1, .int z1), (2, .int z2), (3, .int z3), (4, .int z4), (5, .int z5), (6, .int r21), (7, .int z7), (8, .int z8), (9, .int z9), (10, .int r21)]) hl [1, 2, 3, 4, 5, 6, 0, 7, 8, 9, 10] rfl
            refine lv_iload C.1 C.2.1 dX12_sooner_171 (lv_at hl 8 rfl) ?_
            refine lv_istore_n (lv' := [(3, .int z8), (0, .ref (ad 0)), (1, .int z1), (2, .int z2), (4, .int z4), (5, .int z5), (6, .int r21), (7, .int z7), (8, .int z8), (9, .int z9), (10, .int r21)]) C.1 C.2.1 dX12_sooner_173 rfl hl (by decide) rfl (fun ls hl => ?_)
            replace hl := lv_sub (l' := [(0, .ref (ad 0)), (1, .int z1), (2, .int z2), (3, .int z8), (4, .int z4), (5, .int z5), (6, .int r21), (7, .int z7), (8, .int z8), (9, .int z9), (10, .int r21)]) hl [1, 2, 3, 0, 4, 5, 6, 7, 8, 9, 10] rfl
            refine lv_iload C.1 C.2.1 dX12_sooner_174 (lv_at hl 9 rfl) ?_
            refine lv_istore (lv' := [(4, .int z9), (0, .ref (ad 0)), (1, .int z1), (2, .int z2), (3, .int z8), (5, .int z5), (6, .int r21), (7, .int z7), (8, .int z8), (9, .int z9), (10, .int r21)]) C.1 C.2.1 dX12_sooner_176 hl (by decide) rfl (fun ls hl => ?_)
            replace hl := lv_sub (l' := [(0, .ref (ad 0)), (1, .int z1), (2, .int z2), (3, .int z8), (4, .int z9), (5, .int z5), (6, .int r21), (7, .int z7), (8, .int z8), (9, .int z9), (10, .int r21)]) hl [1, 2, 3, 4, 0, 5, 6, 7, 8, 9, 10] rfl
            refine lv_iload C.1 C.2.1 dX12_sooner_178 (lv_at hl 7 rfl) ?_
            refine lv_istore (lv' := [(5, .int z7), (0, .ref (ad 0)), (1, .int z1), (2, .int z2), (3, .int z8), (4, .int z9), (6, .int r21), (7, .int z7), (8, .int z8), (9, .int z9), (10, .int r21)]) C.1 C.2.1 dX12_sooner_180 hl (by decide) rfl (fun ls hl => ?_)
            replace hl := lv_sub (l' := [(0, .ref (ad 0)), (1, .int z1), (2, .int z2), (3, .int z8), (4, .int z9), (5, .int z7), (6, .int r21), (7, .int z7), (8, .int z8), (9, .int z9), (10, .int r21)]) hl [1, 2, 3, 4, 5, 0, 6, 7, 8, 9, 10] rfl
            refine lv_iload C.1 C.2.1 dX12_sooner_182 (lv_at hl 10 rfl) ?_
            refine lv_iconst (v := 1) C.1 C.2.1 dX12_sooner_184 (by decide) ?_
            refine lv_isub C.1 C.2.1 dX12_sooner_185 ?_
            refine lv_topi (fun v24 hv25 => ?_)
            replace h := lt_e hv25 h
            try dsimp only at h
            refine lv_istore_n (lv' := [(2, .int v24), (0, .ref (ad 0)), (1, .int z1), (3, .int z8), (4, .int z9), (5, .int z7), (6, .int r21), (7, .int z7), (8, .int z8), (9, .int z9), (10, .int r21)]) C.1 C.2.1 dX12_sooner_186 rfl hl (by decide) rfl (fun ls hl => ?_)
            replace hl := lv_sub (l' := [(0, .ref (ad 0)), (1, .int z1), (2, .int v24), (3, .int z8), (4, .int z9), (5, .int z7), (6, .int r21), (7, .int z7), (8, .int z8), (9, .int z9), (10, .int r21)]) hl [1, 2, 0, 3, 4, 5, 6, 7, 8, 9, 10] rfl
            exact wGX12_sooner_0_187 C hK hJ ih _ _ _ _ _ _ _ _ _ _ _ _ _ h hP hS (lv_sub hl [0, 1, 2, 3, 4, 5, 6, 7, 8, 9] rfl)
          · rw [if_pos c161] at h
            refine lv_goto (tgt := 187) C.1 C.2.1 dX12_sooner_164 (by decide) ?_
            exact wGX12_sooner_0_187 C hK hJ ih _ _ _ _ _ _ _ _ _ _ _ _ _ h hP hS (lv_sub hl [0, 1, 2, 3, 4, 5, 6, 7, 8, 9] rfl)
        · rw [if_neg c106] at h
          refine lv_goto (tgt := 187) C.1 C.2.1 dX12_sooner_109 (by decide) ?_
          exact wGX12_sooner_0_187 C hK hJ ih _ _ _ _ _ _ _ _ _ _ _ _ _ h hP hS hl
set_option maxHeartbeats 4000000 in
set_option maxRecDepth 100000 in
theorem wGX12_sooner_0_193 {p : Program} {l : Launch} {e : Env} {s : State} {m : MethodId} {args : Array Value} {below : List Frame} {meth : Method} {c : Code} {D : va_G} {cy : Nat → ClassId} {ad st : Nat → Nat} (C : Cx RX12 cX12_sooner 11 (some .int) wsX12_sooner p s m args meth c) (hK : Ky D [(cy 0, .int), (cy 1, .long), (cy 2, .boolean), (cy 3, .byte), (cy 4, .object "HissHorn$Text")] st s) (hJ : JM ad st) {r : Int32} {u' : SX} {k68 : Int32 → Int32 → Int32 → Int32 → Int32 → Int32 → Int32 → Int32 → SX → Option (Int32 × SX)} (hk68 : ∀ (z1 : Int32) (z2 : Int32) (z3 : Int32) (z4 : Int32) (z5 : Int32) (z6 : Int32) (z7 : Int32) (z8 : Int32) (u : SX) (H : Heap) (locs : List Loc) (ls : Array Slot), k68 z1 z2 z3 z4 z5 z6 z7 z8 u = some (r, u') → va_P D vwCl (VM cy ad st u) H → va_S (Ax (AM ad) s.heap.size) s.heap H locs → lv_has ls 11 [(0, .ref (ad 0)), (1, .int z1), (2, .int z2), (3, .int z3), (4, .int z4), (5, .int z5), (6, .int z6), (7, .int z7), (8, .int z8)] → W p l e rmX12_sooner_0 s m args below meth c H locs 0 0 (MQ below (Qi D (VM cy ad st) (AM ad) s.heap.size r u') args s 0 0 (Ax (AM ad) s.heap.size)) (F0 m 68 ls [])) (z1 : Int32) (z2 : Int32) (z3 : Int32) (z4 : Int32) (z5 : Int32) (z6 : Int32) (z7 : Int32) (z8 : Int32) (u : SX) (H : Heap) (locs : List Loc) (ls : Array Slot) (h : GX12_sooner_0_193 k68 z1 z2 z3 z4 z5 z6 z7 z8 u = some (r, u')) (hP : va_P D vwCl (VM cy ad st u) H) (hS : va_S (Ax (AM ad) s.heap.size) s.heap H locs) (hl : lv_has ls 11 [(0, .ref (ad 0)), (1, .int z1), (2, .int z2), (3, .int z3), (4, .int z4), (5, .int z5), (6, .int z6), (7, .int z7), (8, .int z8)]) : W p l e rmX12_sooner_0 s m args below meth c H locs 0 0 (MQ below (Qi D (VM cy ad st) (AM ad) s.heap.size r u') args s 0 0 (Ax (AM ad) s.heap.size)) (F0 m 193 ls []) := by
  unfold GX12_sooner_0_193 at h
  refine lv_iinc (v := z8 + 1) (lv' := [(8, .int (z8 + 1)), (0, .ref (ad 0)), (1, .int z1), (2, .int z2), (3, .int z3), (4, .int z4), (5, .int z5), (6, .int z6), (7, .int z7)]) C.1 C.2.1 dX12_sooner_193 hl (k := 8) rfl rfl (by decide) rfl (fun ls hl => ?_)
  replace hl := lv_sub (l' := [(0, .ref (ad 0)), (1, .int z1), (2, .int z2), (3, .int z3), (4, .int z4), (5, .int z5), (6, .int z6), (7, .int z7), (8, .int (z8 + 1))]) hl [1, 2, 3, 4, 5, 6, 7, 8, 0] rfl
  refine lv_goto (tgt := 68) C.1 C.2.1 dX12_sooner_196 (by decide) ?_
  exact hk68 _ _ _ _ _ _ _ _ _ _ _ _ h hP hS hl
set_option maxHeartbeats 4000000 in
set_option maxRecDepth 100000 in
theorem wLX12_sooner_0_68 {p : Program} {l : Launch} {e : Env} {s : State} {m : MethodId} {args : Array Value} {below : List Frame} {meth : Method} {c : Code} {D : va_G} {cy : Nat → ClassId} {ad st : Nat → Nat} (C : Cx RX12 cX12_sooner 11 (some .int) wsX12_sooner p s m args meth c) (hK : Ky D [(cy 0, .int), (cy 1, .long), (cy 2, .boolean), (cy 3, .byte), (cy 4, .object "HissHorn$Text")] st s) (hJ : JM ad st) {r : Int32} {u' : SX} {k199 : Int32 → Int32 → Int32 → Int32 → Int32 → Int32 → Int32 → SX → Option (Int32 × SX)} (hk199 : ∀ (z1 : Int32) (z2 : Int32) (z3 : Int32) (z4 : Int32) (z5 : Int32) (z6 : Int32) (z7 : Int32) (u : SX) (H : Heap) (locs : List Loc) (ls : Array Slot), k199 z1 z2 z3 z4 z5 z6 z7 u = some (r, u') → va_P D vwCl (VM cy ad st u) H → va_S (Ax (AM ad) s.heap.size) s.heap H locs → lv_has ls 11 [(0, .ref (ad 0)), (1, .int z1), (2, .int z2), (3, .int z3), (4, .int z4), (5, .int z5), (6, .int z6), (7, .int z7)] → W p l e rmX12_sooner_0 s m args below meth c H locs 0 0 (MQ below (Qi D (VM cy ad st) (AM ad) s.heap.size r u') args s 0 0 (Ax (AM ad) s.heap.size)) (F0 m 199 ls [])) : ∀ (n : Nat) (z1 : Int32) (z2 : Int32) (z3 : Int32) (z4 : Int32) (z5 : Int32) (z6 : Int32) (z7 : Int32) (z8 : Int32) (u : SX) (H : Heap) (locs : List Loc) (ls : Array Slot), LX12_sooner_0_68 k199 n z1 z2 z3 z4 z5 z6 z7 z8 u = some (r, u') → va_P D vwCl (VM cy ad st u) H → va_S (Ax (AM ad) s.heap.size) s.heap H locs → lv_has ls 11 [(0, .ref (ad 0)), (1, .int z1), (2, .int z2), (3, .int z3), (4, .int z4), (5, .int z5), (6, .int z6), (7, .int z7), (8, .int z8)] → W p l e rmX12_sooner_0 s m args below meth c H locs 0 0 (MQ below (Qi D (VM cy ad st) (AM ad) s.heap.size r u') args s 0 0 (Ax (AM ad) s.heap.size)) (F0 m 68 ls []) := by
  intro n
  induction n with
  | zero =>
    intro z1 z2 z3 z4 z5 z6 z7 z8 u H locs ls h
    exact absurd h (by intro q; cases q)
  | succ n ih =>
    intro z1 z2 z3 z4 z5 z6 z7 z8 u H locs ls h hP hS hl
    rw [LX12_sooner_0_68] at h
    refine lv_iload C.1 C.2.1 dX12_sooner_68 (lv_at hl 8 rfl) ?_
    refine lv_aload_n C.1 C.2.1 dX12_sooner_70 rfl (lv_at hl 0 rfl) ?_
    refine gM_0_houses C hX12_sooner_0_X12 hK hP mX12_sooner_0_4 dX12_sooner_71 ?_
    refine lv_icmp_ge (tgt := 199) C.1 C.2.1 dX12_sooner_74 (by decide) (fun c74 => ?_) (fun c74 => ?_)
    · rw [if_pos c74] at h
      exact hk199 _ _ _ _ _ _ _ _ _ _ _ h hP hS (lv_sub hl [0, 1, 2, 3, 4, 5, 6, 7] rfl)
    · rw [if_neg c74] at h
      refine lv_iconst (v := 0) C.1 C.2.1 dX12_sooner_77 (by decide) ?_
      refine lv_istore (lv' := [(9, .int 0), (0, .ref (ad 0)), (1, .int z1), (2, .int z2), (3, .int z3), (4, .int z4), (5, .int z5), (6, .int z6), (7, .int z7), (8, .int z8)]) C.1 C.2.1 dX12_sooner_78 hl (by decide) rfl (fun ls hl => ?_)
      replace hl := lv_sub (l' := [(0, .ref (ad 0)), (1, .int z1), (2, .int z2), (3, .int z3), (4, .int z4), (5, .int z5), (6, .int z6), (7, .int z7), (8, .int z8), (9, .int 0)]) hl [1, 2, 3, 4, 5, 6, 7, 8, 9, 0] rfl
      exact wLX12_sooner_0_80 C hK hJ (wGX12_sooner_0_193 C hK hJ ih) 5000 _ _ _ _ _ _ _ _ _ _ _ _ _ h hP hS hl
set_option maxHeartbeats 4000000 in
set_option maxRecDepth 100000 in
theorem wGX12_sooner_0_199 {p : Program} {l : Launch} {e : Env} {s : State} {m : MethodId} {args : Array Value} {below : List Frame} {meth : Method} {c : Code} {D : va_G} {cy : Nat → ClassId} {ad st : Nat → Nat} (C : Cx RX12 cX12_sooner 11 (some .int) wsX12_sooner p s m args meth c) (hK : Ky D [(cy 0, .int), (cy 1, .long), (cy 2, .boolean), (cy 3, .byte), (cy 4, .object "HissHorn$Text")] st s) (hJ : JM ad st) {r : Int32} {u' : SX} {k59 : Int32 → Int32 → Int32 → Int32 → Int32 → Int32 → Int32 → SX → Option (Int32 × SX)} (hk59 : ∀ (z1 : Int32) (z2 : Int32) (z3 : Int32) (z4 : Int32) (z5 : Int32) (z6 : Int32) (z7 : Int32) (u : SX) (H : Heap) (locs : List Loc) (ls : Array Slot), k59 z1 z2 z3 z4 z5 z6 z7 u = some (r, u') → va_P D vwCl (VM cy ad st u) H → va_S (Ax (AM ad) s.heap.size) s.heap H locs → lv_has ls 11 [(0, .ref (ad 0)), (1, .int z1), (2, .int z2), (3, .int z3), (4, .int z4), (5, .int z5), (6, .int z6), (7, .int z7)] → W p l e rmX12_sooner_0 s m args below meth c H locs 0 0 (MQ below (Qi D (VM cy ad st) (AM ad) s.heap.size r u') args s 0 0 (Ax (AM ad) s.heap.size)) (F0 m 59 ls [])) (z1 : Int32) (z2 : Int32) (z3 : Int32) (z4 : Int32) (z5 : Int32) (z6 : Int32) (z7 : Int32) (u : SX) (H : Heap) (locs : List Loc) (ls : Array Slot) (h : GX12_sooner_0_199 k59 z1 z2 z3 z4 z5 z6 z7 u = some (r, u')) (hP : va_P D vwCl (VM cy ad st u) H) (hS : va_S (Ax (AM ad) s.heap.size) s.heap H locs) (hl : lv_has ls 11 [(0, .ref (ad 0)), (1, .int z1), (2, .int z2), (3, .int z3), (4, .int z4), (5, .int z5), (6, .int z6), (7, .int z7)]) : W p l e rmX12_sooner_0 s m args below meth c H locs 0 0 (MQ below (Qi D (VM cy ad st) (AM ad) s.heap.size r u') args s 0 0 (Ax (AM ad) s.heap.size)) (F0 m 199 ls []) := by
  unfold GX12_sooner_0_199 at h
  refine lv_iinc (v := z7 + 1) (lv' := [(7, .int (z7 + 1)), (0, .ref (ad 0)), (1, .int z1), (2, .int z2), (3, .int z3), (4, .int z4), (5, .int z5), (6, .int z6)]) C.1 C.2.1 dX12_sooner_199 hl (k := 7) rfl rfl (by decide) rfl (fun ls hl => ?_)
  replace hl := lv_sub (l' := [(0, .ref (ad 0)), (1, .int z1), (2, .int z2), (3, .int z3), (4, .int z4), (5, .int z5), (6, .int z6), (7, .int (z7 + 1))]) hl [1, 2, 3, 4, 5, 6, 7, 0] rfl
  refine lv_goto (tgt := 59) C.1 C.2.1 dX12_sooner_202 (by decide) ?_
  exact hk59 _ _ _ _ _ _ _ _ _ _ _ h hP hS hl
set_option maxHeartbeats 4000000 in
set_option maxRecDepth 100000 in
theorem wLX12_sooner_0_59 {p : Program} {l : Launch} {e : Env} {s : State} {m : MethodId} {args : Array Value} {below : List Frame} {meth : Method} {c : Code} {D : va_G} {cy : Nat → ClassId} {ad st : Nat → Nat} (C : Cx RX12 cX12_sooner 11 (some .int) wsX12_sooner p s m args meth c) (hK : Ky D [(cy 0, .int), (cy 1, .long), (cy 2, .boolean), (cy 3, .byte), (cy 4, .object "HissHorn$Text")] st s) (hJ : JM ad st) {r : Int32} {u' : SX} {k205 : Int32 → Int32 → Int32 → Int32 → Int32 → SX → Option (Int32 × SX)} (hk205 : ∀ (z1 : Int32) (z3 : Int32) (z4 : Int32) (z5 : Int32) (z6 : Int32) (u : SX) (H : Heap) (locs : List Loc) (ls : Array Slot), k205 z1 z3 z4 z5 z6 u = some (r, u') → va_P D vwCl (VM cy ad st u) H → va_S (Ax (AM ad) s.heap.size) s.heap H locs → lv_has ls 11 [(1, .int z1), (3, .int z3), (4, .int z4), (5, .int z5), (6, .int z6)] → W p l e rmX12_sooner_0 s m args below meth c H locs 0 0 (MQ below (Qi D (VM cy ad st) (AM ad) s.heap.size r u') args s 0 0 (Ax (AM ad) s.heap.size)) (F0 m 205 ls [])) : ∀ (n : Nat) (z1 : Int32) (z2 : Int32) (z3 : Int32) (z4 : Int32) (z5 : Int32) (z6 : Int32) (z7 : Int32) (u : SX) (H : Heap) (locs : List Loc) (ls : Array Slot), LX12_sooner_0_59 k205 n z1 z2 z3 z4 z5 z6 z7 u = some (r, u') → va_P D vwCl (VM cy ad st u) H → va_S (Ax (AM ad) s.heap.size) s.heap H locs → lv_has ls 11 [(0, .ref (ad 0)), (1, .int z1), (2, .int z2), (3, .int z3), (4, .int z4), (5, .int z5), (6, .int z6), (7, .int z7)] → W p l e rmX12_sooner_0 s m args below meth c H locs 0 0 (MQ below (Qi D (VM cy ad st) (AM ad) s.heap.size r u') args s 0 0 (Ax (AM ad) s.heap.size)) (F0 m 59 ls []) := by
  intro n
  induction n with
  | zero =>
    intro z1 z2 z3 z4 z5 z6 z7 u H locs ls h
    exact absurd h (by intro q; cases q)
  | succ n ih =>
    intro z1 z2 z3 z4 z5 z6 z7 u H locs ls h hP hS hl
    rw [LX12_sooner_0_59] at h
    refine lv_iload C.1 C.2.1 dX12_sooner_59 (lv_at hl 7 rfl) ?_
    refine lv_iload_n C.1 C.2.1 dX12_sooner_61 rfl (lv_at hl 2 rfl) ?_
    refine lv_icmp_gt (tgt := 205) C.1 C.2.1 dX12_sooner_62 (by decide) (fun c62 => ?_) (fun c62 => ?_)
    · rw [if_pos c62] at h
      exact hk205 _ _ _ _ _ _ _ _ _ h hP hS (lv_sub hl [1, 3, 4, 5, 6] rfl)
    · rw [if_neg c62] at h
      refine lv_iconst (v := 0) C.1 C.2.1 dX12_sooner_65 (by decide) ?_
      refine lv_istore (lv' := [(8, .int 0), (0, .ref (ad 0)), (1, .int z1), (2, .int z2), (3, .int z3), (4, .int z4), (5, .int z5), (6, .int z6), (7, .int z7)]) C.1 C.2.1 dX12_sooner_66 hl (by decide) rfl (fun ls hl => ?_)
      replace hl := lv_sub (l' := [(0, .ref (ad 0)), (1, .int z1), (2, .int z2), (3, .int z3), (4, .int z4), (5, .int z5), (6, .int z6), (7, .int z7), (8, .int 0)]) hl [1, 2, 3, 4, 5, 6, 7, 8, 0] rfl
      exact wLX12_sooner_0_68 C hK hJ (wGX12_sooner_0_199 C hK hJ ih) 5000 _ _ _ _ _ _ _ _ _ _ _ _ h hP hS hl
set_option maxHeartbeats 4000000 in
set_option maxRecDepth 100000 in
theorem wGX12_sooner_0_205 {p : Program} {l : Launch} {e : Env} {s : State} {m : MethodId} {args : Array Value} {below : List Frame} {meth : Method} {c : Code} {D : va_G} {cy : Nat → ClassId} {ad st : Nat → Nat} (C : Cx RX12 cX12_sooner 11 (some .int) wsX12_sooner p s m args meth c) (hK : Ky D [(cy 0, .int), (cy 1, .long), (cy 2, .boolean), (cy 3, .byte), (cy 4, .object "HissHorn$Text")] st s) (hJ : JM ad st) {r : Int32} {u' : SX}   (z1 : Int32) (z3 : Int32) (z4 : Int32) (z5 : Int32) (z6 : Int32) (u : SX) (H : Heap) (locs : List Loc) (ls : Array Slot) (h : GX12_sooner_0_205 z1 z3 z4 z5 z6 u = some (r, u')) (hP : va_P D vwCl (VM cy ad st u) H) (hS : va_S (Ax (AM ad) s.heap.size) s.heap H locs) (hl : lv_has ls 11 [(1, .int z1), (3, .int z3), (4, .int z4), (5, .int z5), (6, .int z6)]) : W p l e rmX12_sooner_0 s m args below meth c H locs 0 0 (MQ below (Qi D (VM cy ad st) (AM ad) s.heap.size r u') args s 0 0 (Ax (AM ad) s.heap.size)) (F0 m 205 ls []) := by
  unfold GX12_sooner_0_205 at h
  refine lv_iload_n C.1 C.2.1 dX12_sooner_205 rfl (lv_at hl 0 rfl) ?_
  refine lv_if_ne (tgt := 213) C.1 C.2.1 dX12_sooner_206 (by decide) (fun c206 => ?_) (fun c206 => ?_)
  · rw [if_neg c206] at h
    refine lv_iload_n C.1 C.2.1 dX12_sooner_213 rfl (lv_at hl 0 rfl) ?_
    refine lv_iconst (v := 1) C.1 C.2.1 dX12_sooner_214 (by decide) ?_
    refine lv_icmp_ne (tgt := 223) C.1 C.2.1 dX12_sooner_215 (by decide) (fun c215 => ?_) (fun c215 => ?_)
    · rw [if_neg c215] at h
      refine lv_iload_n C.1 C.2.1 dX12_sooner_223 rfl (lv_at hl 0 rfl) ?_
      refine lv_iconst (v := 2) C.1 C.2.1 dX12_sooner_224 (by decide) ?_
      refine lv_icmp_ne (tgt := 233) C.1 C.2.1 dX12_sooner_225 (by decide) (fun c225 => ?_) (fun c225 => ?_)
      · rw [if_neg c225] at h
        refine lv_iload C.1 C.2.1 dX12_sooner_233 (lv_at hl 4 rfl) ?_
        cases h
        exact rt_i C hP hS dX12_sooner_235
      · rw [if_pos c225] at h
        refine lv_iload C.1 C.2.1 dX12_sooner_228 (lv_at hl 3 rfl) ?_
        refine lv_goto (tgt := 235) C.1 C.2.1 dX12_sooner_230 (by decide) ?_
        cases h
        exact rt_i C hP hS dX12_sooner_235
    · rw [if_pos c215] at h
      refine lv_iload C.1 C.2.1 dX12_sooner_218 (lv_at hl 2 rfl) ?_
      refine lv_goto (tgt := 235) C.1 C.2.1 dX12_sooner_220 (by decide) ?_
      cases h
      exact rt_i C hP hS dX12_sooner_235
  · rw [if_pos c206] at h
    refine lv_iload_n C.1 C.2.1 dX12_sooner_209 rfl (lv_at hl 1 rfl) ?_
    refine lv_goto (tgt := 235) C.1 C.2.1 dX12_sooner_210 (by decide) ?_
    cases h
    exact rt_i C hP hS dX12_sooner_235
set_option maxHeartbeats 4000000 in
set_option maxRecDepth 100000 in
theorem wGX12_sooner_0_44 {p : Program} {l : Launch} {e : Env} {s : State} {m : MethodId} {args : Array Value} {below : List Frame} {meth : Method} {c : Code} {D : va_G} {cy : Nat → ClassId} {ad st : Nat → Nat} (C : Cx RX12 cX12_sooner 11 (some .int) wsX12_sooner p s m args meth c) (hK : Ky D [(cy 0, .int), (cy 1, .long), (cy 2, .boolean), (cy 3, .byte), (cy 4, .object "HissHorn$Text")] st s) (hJ : JM ad st) {r : Int32} {u' : SX}   (z1 : Int32) (y0 : Int32) (u : SX) (H : Heap) (locs : List Loc) (ls : Array Slot) (h : GX12_sooner_0_44 z1 y0 u = some (r, u')) (hP : va_P D vwCl (VM cy ad st u) H) (hS : va_S (Ax (AM ad) s.heap.size) s.heap H locs) (hl : lv_has ls 11 [(0, .ref (ad 0)), (1, .int z1)]) : W p l e rmX12_sooner_0 s m args below meth c H locs 0 0 (MQ below (Qi D (VM cy ad st) (AM ad) s.heap.size r u') args s 0 0 (Ax (AM ad) s.heap.size)) (F0 m 44 ls [.int y0]) := by
  unfold GX12_sooner_0_44 at h
  refine lv_istore_n (lv' := [(2, .int y0), (0, .ref (ad 0)), (1, .int z1)]) C.1 C.2.1 dX12_sooner_44 rfl hl (by decide) rfl (fun ls hl => ?_)
  replace hl := lv_sub (l' := [(0, .ref (ad 0)), (1, .int z1), (2, .int y0)]) hl [1, 2, 0] rfl
  refine lv_iconst (v := (-1)) C.1 C.2.1 dX12_sooner_45 (by decide) ?_
  refine lv_istore_n (lv' := [(3, .int (-1)), (0, .ref (ad 0)), (1, .int z1), (2, .int y0)]) C.1 C.2.1 dX12_sooner_46 rfl hl (by decide) rfl (fun ls hl => ?_)
  replace hl := lv_sub (l' := [(0, .ref (ad 0)), (1, .int z1), (2, .int y0), (3, .int (-1))]) hl [1, 2, 3, 0] rfl
  refine lv_iconst (v := (-1)) C.1 C.2.1 dX12_sooner_47 (by decide) ?_
  refine lv_istore (lv' := [(4, .int (-1)), (0, .ref (ad 0)), (1, .int z1), (2, .int y0), (3, .int (-1))]) C.1 C.2.1 dX12_sooner_48 hl (by decide) rfl (fun ls hl => ?_)
  replace hl := lv_sub (l' := [(0, .ref (ad 0)), (1, .int z1), (2, .int y0), (3, .int (-1)), (4, .int (-1))]) hl [1, 2, 3, 4, 0] rfl
  refine lv_iconst (v := (-1)) C.1 C.2.1 dX12_sooner_50 (by decide) ?_
  refine lv_istore (lv' := [(5, .int (-1)), (0, .ref (ad 0)), (1, .int z1), (2, .int y0), (3, .int (-1)), (4, .int (-1))]) C.1 C.2.1 dX12_sooner_51 hl (by decide) rfl (fun ls hl => ?_)
  replace hl := lv_sub (l' := [(0, .ref (ad 0)), (1, .int z1), (2, .int y0), (3, .int (-1)), (4, .int (-1)), (5, .int (-1))]) hl [1, 2, 3, 4, 5, 0] rfl
  refine lv_iconst (v := (-1)) C.1 C.2.1 dX12_sooner_53 (by decide) ?_
  refine lv_istore (lv' := [(6, .int (-1)), (0, .ref (ad 0)), (1, .int z1), (2, .int y0), (3, .int (-1)), (4, .int (-1)), (5, .int (-1))]) C.1 C.2.1 dX12_sooner_54 hl (by decide) rfl (fun ls hl => ?_)
  replace hl := lv_sub (l' := [(0, .ref (ad 0)), (1, .int z1), (2, .int y0), (3, .int (-1)), (4, .int (-1)), (5, .int (-1)), (6, .int (-1))]) hl [1, 2, 3, 4, 5, 6, 0] rfl
  refine lv_iconst (v := 0) C.1 C.2.1 dX12_sooner_56 (by decide) ?_
  refine lv_istore (lv' := [(7, .int 0), (0, .ref (ad 0)), (1, .int z1), (2, .int y0), (3, .int (-1)), (4, .int (-1)), (5, .int (-1)), (6, .int (-1))]) C.1 C.2.1 dX12_sooner_57 hl (by decide) rfl (fun ls hl => ?_)
  replace hl := lv_sub (l' := [(0, .ref (ad 0)), (1, .int z1), (2, .int y0), (3, .int (-1)), (4, .int (-1)), (5, .int (-1)), (6, .int (-1)), (7, .int 0)]) hl [1, 2, 3, 4, 5, 6, 7, 0] rfl
  exact wLX12_sooner_0_59 C hK hJ (wGX12_sooner_0_205 C hK hJ ) 5000 _ _ _ _ _ _ _ _ _ _ _ h hP hS hl
set_option maxHeartbeats 4000000 in
set_option maxRecDepth 100000 in
theorem wX12_sooner_0 {p : Program} {l : Launch} {e : Env} {s : State} {m : MethodId} {args : Array Value} {below : List Frame} {meth : Method} {c : Code} {D : va_G} {cy : Nat → ClassId} {ad st : Nat → Nat} (C : Cx RX12 cX12_sooner 11 (some .int) wsX12_sooner p s m args meth c) (hK : Ky D [(cy 0, .int), (cy 1, .long), (cy 2, .boolean), (cy 3, .byte), (cy 4, .object "HissHorn$Text")] st s) (hJ : JM ad st) (x1 : Int32) {u : SX} {r : Int32} {u' : SX} {H : Heap} {locs : List Loc} {ls : Array Slot} (h : fX12_sooner_0 x1 u = some (r, u')) (hP : va_P D vwCl (VM cy ad st u) H) (hS : va_S (Ax (AM ad) s.heap.size) s.heap H locs) (hl : lv_has ls 11 [(0, .ref (ad 0)), (1, .int x1)]) : W p l e rmX12_sooner_0 s m args below meth c H locs 0 0 (MQ below (Qi D (VM cy ad st) (AM ad) s.heap.size r u') args s 0 0 (Ax (AM ad) s.heap.size)) (F0 m 0 ls []) := by
  unfold fX12_sooner_0 at h
  refine lv_aload_n C.1 C.2.1 dX12_sooner_0 rfl (lv_at hl 0 rfl) ?_
  refine lv_iconst (v := 0) C.1 C.2.1 dX12_sooner_1 (by decide) ?_
  refine pM_0_thrown C hX12_sooner_0_X12 hK hP hJ hS mX12_sooner_0_1 dX12_sooner_2 (fun H locs hP hS => ?_)
  obtain ⟨u1, hu2, h⟩ := lt_some h
  rw [← hu2] at hP
  refine lv_iload_n C.1 C.2.1 dX12_sooner_5 rfl (lv_at hl 1 rfl) ?_
  refine lv_iconst (v := 0) C.1 C.2.1 dX12_sooner_6 (by decide) ?_
  refine lv_iconst (v := 3) C.1 C.2.1 dX12_sooner_7 (by decide) ?_
  obtain ⟨r3, hc5, h⟩ := bd_some h
  refine cs_i (As := [.int x1, .int 0, .int 3]) (rest := []) (AM_ge hJ) C hK hP hS (metX12_isIn l D cy st _ x1 0 3 hc5) (va_cwS 3 C.2.2.2.2.2.1 gX12_sooner_X12_isIn rfl rfl rfl (by decide +kernel) ⟨(Nat.le_of_ble_eq_true rfl), (Nat.le_of_ble_eq_true rfl)⟩) rfl hl.1 rfl (Nat.le_of_ble_eq_true rfl) dX12_sooner_8 ⟨Nat.zero_le _, Nat.zero_le _⟩ (fun H locs hP hS => ?_)
  refine lv_if_ne (tgt := 16) C.1 C.2.1 dX12_sooner_11 (by decide) (fun c11 => ?_) (fun c11 => ?_)
  · rw [if_neg c11] at h
    refine lv_aload_n C.1 C.2.1 dX12_sooner_16 rfl (lv_at hl 0 rfl) ?_
    refine lv_aload_n C.1 C.2.1 dX12_sooner_17 rfl (lv_at hl 0 rfl) ?_
    refine gM_0_letterMany C hX12_sooner_0_X12 hK hP mX12_sooner_0_2 dX12_sooner_18 ?_
    refine lv_aload_n C.1 C.2.1 dX12_sooner_21 rfl (lv_at hl 0 rfl) ?_
    refine gM_0_now C hX12_sooner_0_X12 hK hP mX12_sooner_0_3 dX12_sooner_22 ?_
    obtain ⟨⟨r6, u7⟩, hc8, h⟩ := bd_some h
    try dsimp only at h
    refine cg_i (As := [.int (u1.1 25), .int (u1.1 1)]) (rest := []) (AM_ge hJ) C hK hP hS (metX12_metBy_0 l D cy ad st hJ _ (u1.1 25) (u1.1 1) hc8) (cwV 2 C.2.2.2.2.2.1 gX12_sooner_X12_metBy rfl rfl rfl (by decide +kernel) ⟨(Nat.le_of_ble_eq_true rfl), (Nat.le_of_ble_eq_true rfl)⟩) 0 12 rfl rfl rfl hl.1 rfl (Nat.le_of_ble_eq_true rfl) dX12_sooner_25 ⟨Nat.zero_le _, Nat.zero_le _⟩ (fun H locs hP hS => ?_)
    refine lv_istore_n (lv' := [(2, .int r6), (0, .ref (ad 0)), (1, .int x1)]) C.1 C.2.1 dX12_sooner_28 rfl hl (by decide) rfl (fun ls hl => ?_)
    replace hl := lv_sub (l' := [(0, .ref (ad 0)), (1, .int x1), (2, .int r6)]) hl [1, 2, 0] rfl
    refine lv_iload_n C.1 C.2.1 dX12_sooner_29 rfl (lv_at hl 2 rfl) ?_
    refine lv_iconst (v := (-1)) C.1 C.2.1 dX12_sooner_30 (by decide) ?_
    refine lv_icmp_ne (tgt := 41) C.1 C.2.1 dX12_sooner_31 (by decide) (fun c31 => ?_) (fun c31 => ?_)
    · rw [if_neg c31] at h
      refine lv_iload_n C.1 C.2.1 dX12_sooner_41 rfl (lv_at hl 2 rfl) ?_
      refine lv_iconst (v := 1) C.1 C.2.1 dX12_sooner_42 (by decide) ?_
      refine lv_isub C.1 C.2.1 dX12_sooner_43 ?_
      exact wGX12_sooner_0_44 C hK hJ _ _ _ _ _ _ h hP hS (lv_sub hl [0, 1] rfl)
    · rw [if_pos c31] at h
      refine lv_aload_n C.1 C.2.1 dX12_sooner_34 rfl (lv_at hl 0 rfl) ?_
      refine gM_0_now C hX12_sooner_0_X12 hK hP mX12_sooner_0_3 dX12_sooner_35 ?_
      refine lv_goto (tgt := 44) C.1 C.2.1 dX12_sooner_38 (by decide) ?_
      exact wGX12_sooner_0_44 C hK hJ _ _ _ _ _ _ h hP hS (lv_sub hl [0, 1] rfl)
  · rw [if_pos c11] at h
    refine lv_iconst (v := (-1)) C.1 C.2.1 dX12_sooner_14 (by decide) ?_
    cases h
    exact rt_i C hP hS dX12_sooner_15
theorem metX12_sooner_0 (l : Launch) (D : va_G) (cy : Nat → ClassId) (ad st : Nat → Nat) (hJ : JM ad st) (sz : Nat) (x1 : Int32) {u : SX} {r : Int32} {u' : SX} (h : fX12_sooner_0 x1 u = some (r, u')) : Met l yX12_sooner wsX12_sooner rmX12_sooner_0 (va_Pc [.ref (ad 0), .int x1] (Px D [(cy 0, .int), (cy 1, .long), (cy 2, .boolean), (cy 3, .byte), (cy 4, .object "HissHorn$Text")] st (VM cy ad st) sz u)) (Qi D (VM cy ad st) (AM ad) sz r u') 0 0 (Ax (AM ad) sz) := by
  refine Met.ofW (cc := cX12_sooner) (maxL := 11) (ret := (some .int)) (by decide) rfl ?_
  intro p e s m args below meth c s₁ B hml hv
  obtain ⟨rfl, hsz, hP, hK⟩ := hv
  subst hsz
  have C : Cx RX12 cX12_sooner 11 (some .int) wsX12_sooner p s m _ meth c := ⟨B.exec, B.bytes, hml, B.returns, findClass_of_methodNamed B.named, atoms_spec (ws := wsX12_sooner) B.pre, B.notSynchronized⟩
  have hl := lv_entry ([.ref (ad 0), .int x1]) (n := 11) (Nat.le_of_ble_eq_true rfl)
  rw [lg_entry_eq]
  exact wX12_sooner_0 C hK hJ x1 h hP va_S.rf hl

theorem zdX12_say_106 : (and (and (and (and (and (zk cX12_say 106 (.iadd) 1) (zk cX12_say 107 (.istore 4) 2)) (and (zk cX12_say 109 (.iinc 5 1) 3) (zk cX12_say 112 (.goto (-44)) 3))) (and (and (zk cX12_say 105 (.iconst 0) 1) (zk cX12_say 68 (.iload 5) 2)) (and (zk cX12_say 70 (.aload_n 0) 1) (zk cX12_say 71 (.getfield 301) 3)))) (and (and (and (zk cX12_say 74 (.if_icmp .ge 41) 3) (zk cX12_say 77 (.iload 4) 2)) (and (zk cX12_say 79 (.aload_n 0) 1) (zk cX12_say 80 (.getfield 50) 3))) (and (and (zk cX12_say 83 (.iload 5) 2) (zk cX12_say 85 (.iaload) 1)) (and (zk cX12_say 86 (.iconst (-1)) 1) (zk cX12_say 87 (.if_icmp .eq 18) 3))))) (and (and (and (and (zk cX12_say 90 (.aload_n 0) 1) (zk cX12_say 91 (.getfield 62) 3)) (and (zk cX12_say 94 (.iload 5) 2) (zk cX12_say 96 (.iaload) 1))) (and (and (zk cX12_say 97 (.iload_n 2) 1) (zk cX12_say 98 (.if_icmp .gt 7) 3)) (and (zk cX12_say 101 (.iconst 1) 1) (zk cX12_say 102 (.goto 4) 3)))) (and (and (and (zk cX12_say 172 (.iastore) 1) (zk cX12_say 173 (.aload_n 0) 1)) (and (zk cX12_say 174 (.getfield 23) 3) (zk cX12_say 177 (.bipush 107) 2))) (and (and (zk cX12_say 179 (.iload 4) 2) (zk cX12_say 181 (.iastore) 1)) (and (zk cX12_say 182 (.aload_n 0) 1) (zk cX12_say 183 (.getfield 23) 3)))))) = true := by decide +kernel
theorem dX12_say_106 : decode cX12_say 106 = .ok (.iadd, 1) := zk_of (zk_l (zk_l (zk_l (zk_l (zk_l zdX12_say_106)))))
theorem dX12_say_107 : decode cX12_say 107 = .ok (.istore 4, 2) := zk_of (zk_r (zk_l (zk_l (zk_l (zk_l zdX12_say_106)))))
theorem dX12_say_109 : decode cX12_say 109 = .ok (.iinc 5 1, 3) := zk_of (zk_l (zk_r (zk_l (zk_l (zk_l zdX12_say_106)))))
theorem dX12_say_112 : decode cX12_say 112 = .ok (.goto (-44), 3) := zk_of (zk_r (zk_r (zk_l (zk_l (zk_l zdX12_say_106)))))
theorem dX12_say_105 : decode cX12_say 105 = .ok (.iconst 0, 1) := zk_of (zk_l (zk_l (zk_r (zk_l (zk_l zdX12_say_106)))))
theorem dX12_say_68 : decode cX12_say 68 = .ok (.iload 5, 2) := zk_of (zk_r (zk_l (zk_r (zk_l (zk_l zdX12_say_106)))))
theorem dX12_say_70 : decode cX12_say 70 = .ok (.aload_n 0, 1) := zk_of (zk_l (zk_r (zk_r (zk_l (zk_l zdX12_say_106)))))
theorem dX12_say_71 : decode cX12_say 71 = .ok (.getfield 301, 3) := zk_of (zk_r (zk_r (zk_r (zk_l (zk_l zdX12_say_106)))))
theorem dX12_say_74 : decode cX12_say 74 = .ok (.if_icmp .ge 41, 3) := zk_of (zk_l (zk_l (zk_l (zk_r (zk_l zdX12_say_106)))))
theorem dX12_say_77 : decode cX12_say 77 = .ok (.iload 4, 2) := zk_of (zk_r (zk_l (zk_l (zk_r (zk_l zdX12_say_106)))))
theorem dX12_say_79 : decode cX12_say 79 = .ok (.aload_n 0, 1) := zk_of (zk_l (zk_r (zk_l (zk_r (zk_l zdX12_say_106)))))
theorem dX12_say_80 : decode cX12_say 80 = .ok (.getfield 50, 3) := zk_of (zk_r (zk_r (zk_l (zk_r (zk_l zdX12_say_106)))))
theorem dX12_say_83 : decode cX12_say 83 = .ok (.iload 5, 2) := zk_of (zk_l (zk_l (zk_r (zk_r (zk_l zdX12_say_106)))))
theorem dX12_say_85 : decode cX12_say 85 = .ok (.iaload, 1) := zk_of (zk_r (zk_l (zk_r (zk_r (zk_l zdX12_say_106)))))
theorem dX12_say_86 : decode cX12_say 86 = .ok (.iconst (-1), 1) := zk_of (zk_l (zk_r (zk_r (zk_r (zk_l zdX12_say_106)))))
theorem dX12_say_87 : decode cX12_say 87 = .ok (.if_icmp .eq 18, 3) := zk_of (zk_r (zk_r (zk_r (zk_r (zk_l zdX12_say_106)))))
theorem dX12_say_90 : decode cX12_say 90 = .ok (.aload_n 0, 1) := zk_of (zk_l (zk_l (zk_l (zk_l (zk_r zdX12_say_106)))))
theorem dX12_say_91 : decode cX12_say 91 = .ok (.getfield 62, 3) := zk_of (zk_r (zk_l (zk_l (zk_l (zk_r zdX12_say_106)))))
theorem dX12_say_94 : decode cX12_say 94 = .ok (.iload 5, 2) := zk_of (zk_l (zk_r (zk_l (zk_l (zk_r zdX12_say_106)))))
theorem dX12_say_96 : decode cX12_say 96 = .ok (.iaload, 1) := zk_of (zk_r (zk_r (zk_l (zk_l (zk_r zdX12_say_106)))))
theorem dX12_say_97 : decode cX12_say 97 = .ok (.iload_n 2, 1) := zk_of (zk_l (zk_l (zk_r (zk_l (zk_r zdX12_say_106)))))
theorem dX12_say_98 : decode cX12_say 98 = .ok (.if_icmp .gt 7, 3) := zk_of (zk_r (zk_l (zk_r (zk_l (zk_r zdX12_say_106)))))
theorem dX12_say_101 : decode cX12_say 101 = .ok (.iconst 1, 1) := zk_of (zk_l (zk_r (zk_r (zk_l (zk_r zdX12_say_106)))))
theorem dX12_say_102 : decode cX12_say 102 = .ok (.goto 4, 3) := zk_of (zk_r (zk_r (zk_r (zk_l (zk_r zdX12_say_106)))))
theorem dX12_say_172 : decode cX12_say 172 = .ok (.iastore, 1) := zk_of (zk_l (zk_l (zk_l (zk_r (zk_r zdX12_say_106)))))
theorem dX12_say_173 : decode cX12_say 173 = .ok (.aload_n 0, 1) := zk_of (zk_r (zk_l (zk_l (zk_r (zk_r zdX12_say_106)))))
theorem dX12_say_174 : decode cX12_say 174 = .ok (.getfield 23, 3) := zk_of (zk_l (zk_r (zk_l (zk_r (zk_r zdX12_say_106)))))
theorem dX12_say_177 : decode cX12_say 177 = .ok (.bipush 107, 2) := zk_of (zk_r (zk_r (zk_l (zk_r (zk_r zdX12_say_106)))))
theorem dX12_say_179 : decode cX12_say 179 = .ok (.iload 4, 2) := zk_of (zk_l (zk_l (zk_r (zk_r (zk_r zdX12_say_106)))))
theorem dX12_say_181 : decode cX12_say 181 = .ok (.iastore, 1) := zk_of (zk_r (zk_l (zk_r (zk_r (zk_r zdX12_say_106)))))
theorem dX12_say_182 : decode cX12_say 182 = .ok (.aload_n 0, 1) := zk_of (zk_l (zk_r (zk_r (zk_r (zk_r zdX12_say_106)))))
theorem dX12_say_183 : decode cX12_say 183 = .ok (.getfield 23, 3) := zk_of (zk_r (zk_r (zk_r (zk_r (zk_r zdX12_say_106)))))
theorem zdX12_say_186 : (and (and (and (and (and (zk cX12_say 186 (.bipush 116) 2) (zk cX12_say 188 (.iload_n 2) 1)) (and (zk cX12_say 189 (.iastore) 1) (zk cX12_say 190 (.aload_n 0) 1))) (and (and (zk cX12_say 191 (.iconst 2) 1) (zk cX12_say 192 (.iload_n 1) 1)) (and (zk cX12_say 193 (.invokevirtual 274) 3) (zk cX12_say 196 (.ifCond .eq 5) 3)))) (and (and (and (zk cX12_say 201 (.iinc 2 1) 3) (zk cX12_say 204 (.goto (-179)) 3)) (and (zk cX12_say 199 (.iload_n 2) 1) (zk cX12_say 200 (.ireturn) 1))) (and (and (zk cX12_say 153 (.iastore) 1) (zk cX12_say 154 (.aload_n 0) 1)) (and (zk cX12_say 155 (.getfield 23) 3) (zk cX12_say 158 (.bipush 98) 2))))) (and (and (and (and (zk cX12_say 160 (.iload_n 3) 1) (zk cX12_say 161 (.ifCond .eq 10) 3)) (and (zk cX12_say 171 (.iconst 0) 1) (zk cX12_say 164 (.aload_n 0) 1))) (and (and (zk cX12_say 165 (.getfield 368) 3) (zk cX12_say 168 (.goto 4) 3)) (and (zk cX12_say 115 (.aload_n 0) 1) (zk cX12_say 116 (.invokevirtual 271) 3)))) (and (and (and (zk cX12_say 119 (.aload_n 0) 1) (zk cX12_say 120 (.getfield 23) 3)) (and (zk cX12_say 123 (.bipush 110) 2) (zk cX12_say 125 (.aload_n 0) 1))) (and (and (zk cX12_say 126 (.getfield 365) 3) (zk cX12_say 129 (.iastore) 1)) (and (zk cX12_say 130 (.aload_n 0) 1) (zk cX12_say 131 (.getfield 23) 3)))))) = true := by decide +kernel
theorem dX12_say_186 : decode cX12_say 186 = .ok (.bipush 116, 2) := zk_of (zk_l (zk_l (zk_l (zk_l (zk_l zdX12_say_186)))))
theorem dX12_say_188 : decode cX12_say 188 = .ok (.iload_n 2, 1) := zk_of (zk_r (zk_l (zk_l (zk_l (zk_l zdX12_say_186)))))
theorem dX12_say_189 : decode cX12_say 189 = .ok (.iastore, 1) := zk_of (zk_l (zk_r (zk_l (zk_l (zk_l zdX12_say_186)))))
theorem dX12_say_190 : decode cX12_say 190 = .ok (.aload_n 0, 1) := zk_of (zk_r (zk_r (zk_l (zk_l (zk_l zdX12_say_186)))))
theorem dX12_say_191 : decode cX12_say 191 = .ok (.iconst 2, 1) := zk_of (zk_l (zk_l (zk_r (zk_l (zk_l zdX12_say_186)))))
theorem dX12_say_192 : decode cX12_say 192 = .ok (.iload_n 1, 1) := zk_of (zk_r (zk_l (zk_r (zk_l (zk_l zdX12_say_186)))))
theorem dX12_say_193 : decode cX12_say 193 = .ok (.invokevirtual 274, 3) := zk_of (zk_l (zk_r (zk_r (zk_l (zk_l zdX12_say_186)))))
theorem dX12_say_196 : decode cX12_say 196 = .ok (.ifCond .eq 5, 3) := zk_of (zk_r (zk_r (zk_r (zk_l (zk_l zdX12_say_186)))))
theorem dX12_say_201 : decode cX12_say 201 = .ok (.iinc 2 1, 3) := zk_of (zk_l (zk_l (zk_l (zk_r (zk_l zdX12_say_186)))))
theorem dX12_say_204 : decode cX12_say 204 = .ok (.goto (-179), 3) := zk_of (zk_r (zk_l (zk_l (zk_r (zk_l zdX12_say_186)))))
theorem dX12_say_199 : decode cX12_say 199 = .ok (.iload_n 2, 1) := zk_of (zk_l (zk_r (zk_l (zk_r (zk_l zdX12_say_186)))))
theorem dX12_say_200 : decode cX12_say 200 = .ok (.ireturn, 1) := zk_of (zk_r (zk_r (zk_l (zk_r (zk_l zdX12_say_186)))))
theorem dX12_say_153 : decode cX12_say 153 = .ok (.iastore, 1) := zk_of (zk_l (zk_l (zk_r (zk_r (zk_l zdX12_say_186)))))
theorem dX12_say_154 : decode cX12_say 154 = .ok (.aload_n 0, 1) := zk_of (zk_r (zk_l (zk_r (zk_r (zk_l zdX12_say_186)))))
theorem dX12_say_155 : decode cX12_say 155 = .ok (.getfield 23, 3) := zk_of (zk_l (zk_r (zk_r (zk_r (zk_l zdX12_say_186)))))
theorem dX12_say_158 : decode cX12_say 158 = .ok (.bipush 98, 2) := zk_of (zk_r (zk_r (zk_r (zk_r (zk_l zdX12_say_186)))))
theorem dX12_say_160 : decode cX12_say 160 = .ok (.iload_n 3, 1) := zk_of (zk_l (zk_l (zk_l (zk_l (zk_r zdX12_say_186)))))
theorem dX12_say_161 : decode cX12_say 161 = .ok (.ifCond .eq 10, 3) := zk_of (zk_r (zk_l (zk_l (zk_l (zk_r zdX12_say_186)))))
theorem dX12_say_171 : decode cX12_say 171 = .ok (.iconst 0, 1) := zk_of (zk_l (zk_r (zk_l (zk_l (zk_r zdX12_say_186)))))
theorem dX12_say_164 : decode cX12_say 164 = .ok (.aload_n 0, 1) := zk_of (zk_r (zk_r (zk_l (zk_l (zk_r zdX12_say_186)))))
theorem dX12_say_165 : decode cX12_say 165 = .ok (.getfield 368, 3) := zk_of (zk_l (zk_l (zk_r (zk_l (zk_r zdX12_say_186)))))
theorem dX12_say_168 : decode cX12_say 168 = .ok (.goto 4, 3) := zk_of (zk_r (zk_l (zk_r (zk_l (zk_r zdX12_say_186)))))
theorem dX12_say_115 : decode cX12_say 115 = .ok (.aload_n 0, 1) := zk_of (zk_l (zk_r (zk_r (zk_l (zk_r zdX12_say_186)))))
theorem dX12_say_116 : decode cX12_say 116 = .ok (.invokevirtual 271, 3) := zk_of (zk_r (zk_r (zk_r (zk_l (zk_r zdX12_say_186)))))
theorem dX12_say_119 : decode cX12_say 119 = .ok (.aload_n 0, 1) := zk_of (zk_l (zk_l (zk_l (zk_r (zk_r zdX12_say_186)))))
theorem dX12_say_120 : decode cX12_say 120 = .ok (.getfield 23, 3) := zk_of (zk_r (zk_l (zk_l (zk_r (zk_r zdX12_say_186)))))
theorem dX12_say_123 : decode cX12_say 123 = .ok (.bipush 110, 2) := zk_of (zk_l (zk_r (zk_l (zk_r (zk_r zdX12_say_186)))))
theorem dX12_say_125 : decode cX12_say 125 = .ok (.aload_n 0, 1) := zk_of (zk_r (zk_r (zk_l (zk_r (zk_r zdX12_say_186)))))
theorem dX12_say_126 : decode cX12_say 126 = .ok (.getfield 365, 3) := zk_of (zk_l (zk_l (zk_r (zk_r (zk_r zdX12_say_186)))))
theorem dX12_say_129 : decode cX12_say 129 = .ok (.iastore, 1) := zk_of (zk_r (zk_l (zk_r (zk_r (zk_r zdX12_say_186)))))
theorem dX12_say_130 : decode cX12_say 130 = .ok (.aload_n 0, 1) := zk_of (zk_l (zk_r (zk_r (zk_r (zk_r zdX12_say_186)))))
theorem dX12_say_131 : decode cX12_say 131 = .ok (.getfield 23, 3) := zk_of (zk_r (zk_r (zk_r (zk_r (zk_r zdX12_say_186)))))
set_option maxRecDepth 20000 in
theorem ggX12_say_X12_worthOf : GoodIn wsX12_say wsX12_worthOf := ggi (fun w h => List.mem_cons_of_mem _ (List.mem_append_left _ (List.mem_append_right _ (List.mem_append_left _ h)))) gs_X12_worthOf
set_option maxRecDepth 20000 in
theorem gX12_say_X12_worthOf : GoodIn wsX12_say (wsV RX12 274 RX12 yX12_worthOf wsX12_worthOf) := goodIn_app (goodIn_of _ (by decide +kernel)) ggX12_say_X12_worthOf
set_option maxRecDepth 20000 in
theorem ggX12_say_X12_noLetters : GoodIn wsX12_say wsX12_noLetters := ggi (fun w h => List.mem_cons_of_mem _ (List.mem_append_left _ (List.mem_append_right _ (List.mem_append_right _ (List.mem_append_left _ h))))) gs_X12_noLetters
set_option maxRecDepth 20000 in
theorem gX12_say_X12_noLetters : GoodIn wsX12_say (wsV RX12 271 RX12 yX12_noLetters wsX12_noLetters) := goodIn_app (goodIn_of _ (by decide +kernel)) ggX12_say_X12_noLetters
theorem zdX12_say_134 : (and (and (and (and (and (zk cX12_say 134 (.bipush 103) 2) (zk cX12_say 136 (.iload_n 3) 1)) (and (zk cX12_say 137 (.ifCond .eq 15) 3) (zk cX12_say 152 (.iconst 0) 1))) (and (and (zk cX12_say 140 (.aload_n 0) 1) (zk cX12_say 141 (.getfield 371) 3)) (and (zk cX12_say 144 (.aload_n 0) 1) (zk cX12_say 145 (.getfield 368) 3)))) (and (and (and (zk cX12_say 148 (.isub) 1) (zk cX12_say 149 (.goto 4) 3)) (and (zk cX12_say 61 (.istore_n 3) 1) (zk cX12_say 62 (.iconst 0) 1))) (and (and (zk cX12_say 63 (.istore 4) 2) (zk cX12_say 65 (.iconst 0) 1)) (and (zk cX12_say 66 (.istore 5) 2) (zk cX12_say 60 (.iconst 0) 1))))) (and (and (and (and (zk cX12_say 25 (.iload_n 2) 1) (zk cX12_say 26 (.aload_n 0) 1)) (and (zk cX12_say 27 (.getfield 159) 3) (zk cX12_say 30 (.if_icmp .gt 177) 3))) (and (and (zk cX12_say 207 (.iconst (-1)) 1) (zk cX12_say 208 (.ireturn) 1)) (and (zk cX12_say 33 (.aload_n 0) 1) (zk cX12_say 34 (.iload_n 2) 1)))) (and (and (and (zk cX12_say 35 (.invokevirtual 374) 3) (zk cX12_say 38 (.aload_n 0) 1)) (and (zk cX12_say 39 (.getfield 365) 3) (zk cX12_say 42 (.ifCond .le 18) 3))) (and (and (zk cX12_say 45 (.aload_n 0) 1) (zk cX12_say 46 (.getfield 368) 3)) (and (zk cX12_say 49 (.aload_n 0) 1) (zk cX12_say 50 (.getfield 371) 3)))))) = true := by decide +kernel
theorem dX12_say_134 : decode cX12_say 134 = .ok (.bipush 103, 2) := zk_of (zk_l (zk_l (zk_l (zk_l (zk_l zdX12_say_134)))))
theorem dX12_say_136 : decode cX12_say 136 = .ok (.iload_n 3, 1) := zk_of (zk_r (zk_l (zk_l (zk_l (zk_l zdX12_say_134)))))
theorem dX12_say_137 : decode cX12_say 137 = .ok (.ifCond .eq 15, 3) := zk_of (zk_l (zk_r (zk_l (zk_l (zk_l zdX12_say_134)))))
theorem dX12_say_152 : decode cX12_say 152 = .ok (.iconst 0, 1) := zk_of (zk_r (zk_r (zk_l (zk_l (zk_l zdX12_say_134)))))
theorem dX12_say_140 : decode cX12_say 140 = .ok (.aload_n 0, 1) := zk_of (zk_l (zk_l (zk_r (zk_l (zk_l zdX12_say_134)))))
theorem dX12_say_141 : decode cX12_say 141 = .ok (.getfield 371, 3) := zk_of (zk_r (zk_l (zk_r (zk_l (zk_l zdX12_say_134)))))
theorem dX12_say_144 : decode cX12_say 144 = .ok (.aload_n 0, 1) := zk_of (zk_l (zk_r (zk_r (zk_l (zk_l zdX12_say_134)))))
theorem dX12_say_145 : decode cX12_say 145 = .ok (.getfield 368, 3) := zk_of (zk_r (zk_r (zk_r (zk_l (zk_l zdX12_say_134)))))
theorem dX12_say_148 : decode cX12_say 148 = .ok (.isub, 1) := zk_of (zk_l (zk_l (zk_l (zk_r (zk_l zdX12_say_134)))))
theorem dX12_say_149 : decode cX12_say 149 = .ok (.goto 4, 3) := zk_of (zk_r (zk_l (zk_l (zk_r (zk_l zdX12_say_134)))))
theorem dX12_say_61 : decode cX12_say 61 = .ok (.istore_n 3, 1) := zk_of (zk_l (zk_r (zk_l (zk_r (zk_l zdX12_say_134)))))
theorem dX12_say_62 : decode cX12_say 62 = .ok (.iconst 0, 1) := zk_of (zk_r (zk_r (zk_l (zk_r (zk_l zdX12_say_134)))))
theorem dX12_say_63 : decode cX12_say 63 = .ok (.istore 4, 2) := zk_of (zk_l (zk_l (zk_r (zk_r (zk_l zdX12_say_134)))))
theorem dX12_say_65 : decode cX12_say 65 = .ok (.iconst 0, 1) := zk_of (zk_r (zk_l (zk_r (zk_r (zk_l zdX12_say_134)))))
theorem dX12_say_66 : decode cX12_say 66 = .ok (.istore 5, 2) := zk_of (zk_l (zk_r (zk_r (zk_r (zk_l zdX12_say_134)))))
theorem dX12_say_60 : decode cX12_say 60 = .ok (.iconst 0, 1) := zk_of (zk_r (zk_r (zk_r (zk_r (zk_l zdX12_say_134)))))
theorem dX12_say_25 : decode cX12_say 25 = .ok (.iload_n 2, 1) := zk_of (zk_l (zk_l (zk_l (zk_l (zk_r zdX12_say_134)))))
theorem dX12_say_26 : decode cX12_say 26 = .ok (.aload_n 0, 1) := zk_of (zk_r (zk_l (zk_l (zk_l (zk_r zdX12_say_134)))))
theorem dX12_say_27 : decode cX12_say 27 = .ok (.getfield 159, 3) := zk_of (zk_l (zk_r (zk_l (zk_l (zk_r zdX12_say_134)))))
theorem dX12_say_30 : decode cX12_say 30 = .ok (.if_icmp .gt 177, 3) := zk_of (zk_r (zk_r (zk_l (zk_l (zk_r zdX12_say_134)))))
theorem dX12_say_207 : decode cX12_say 207 = .ok (.iconst (-1), 1) := zk_of (zk_l (zk_l (zk_r (zk_l (zk_r zdX12_say_134)))))
theorem dX12_say_208 : decode cX12_say 208 = .ok (.ireturn, 1) := zk_of (zk_r (zk_l (zk_r (zk_l (zk_r zdX12_say_134)))))
theorem dX12_say_33 : decode cX12_say 33 = .ok (.aload_n 0, 1) := zk_of (zk_l (zk_r (zk_r (zk_l (zk_r zdX12_say_134)))))
theorem dX12_say_34 : decode cX12_say 34 = .ok (.iload_n 2, 1) := zk_of (zk_r (zk_r (zk_r (zk_l (zk_r zdX12_say_134)))))
theorem dX12_say_35 : decode cX12_say 35 = .ok (.invokevirtual 374, 3) := zk_of (zk_l (zk_l (zk_l (zk_r (zk_r zdX12_say_134)))))
theorem dX12_say_38 : decode cX12_say 38 = .ok (.aload_n 0, 1) := zk_of (zk_r (zk_l (zk_l (zk_r (zk_r zdX12_say_134)))))
theorem dX12_say_39 : decode cX12_say 39 = .ok (.getfield 365, 3) := zk_of (zk_l (zk_r (zk_l (zk_r (zk_r zdX12_say_134)))))
theorem dX12_say_42 : decode cX12_say 42 = .ok (.ifCond .le 18, 3) := zk_of (zk_r (zk_r (zk_l (zk_r (zk_r zdX12_say_134)))))
theorem dX12_say_45 : decode cX12_say 45 = .ok (.aload_n 0, 1) := zk_of (zk_l (zk_l (zk_r (zk_r (zk_r zdX12_say_134)))))
theorem dX12_say_46 : decode cX12_say 46 = .ok (.getfield 368, 3) := zk_of (zk_r (zk_l (zk_r (zk_r (zk_r zdX12_say_134)))))
theorem dX12_say_49 : decode cX12_say 49 = .ok (.aload_n 0, 1) := zk_of (zk_l (zk_r (zk_r (zk_r (zk_r zdX12_say_134)))))
theorem dX12_say_50 : decode cX12_say 50 = .ok (.getfield 371, 3) := zk_of (zk_r (zk_r (zk_r (zk_r (zk_r zdX12_say_134)))))
set_option maxRecDepth 20000 in
theorem ggX12_say_X12_layAlike : GoodIn wsX12_say wsX12_layAlike := ggi (fun w h => List.mem_cons_of_mem _ (List.mem_append_left _ (List.mem_append_right _ (List.mem_append_right _ (List.mem_append_right _ (List.mem_append_left _ h)))))) gs_X12_layAlike
set_option maxRecDepth 20000 in
theorem gX12_say_X12_layAlike : GoodIn wsX12_say (wsV RX12 374 RX12 yX12_layAlike wsX12_layAlike) := goodIn_app (goodIn_of _ (by decide +kernel)) ggX12_say_X12_layAlike
theorem zdX12_say_53 : (and (and (and (and (and (zk cX12_say 53 (.if_icmp .gt 7) 3) (zk cX12_say 56 (.iconst 1) 1)) (zk cX12_say 57 (.goto 4) 3)) (and (zk cX12_say 0 (.aload_n 0) 1) (zk cX12_say 1 (.iconst 0) 1))) (and (and (and (zk cX12_say 2 (.putfield 151) 3) (zk cX12_say 5 (.iload_n 1) 1)) (zk cX12_say 6 (.iconst 0) 1)) (and (zk cX12_say 7 (.aload_n 0) 1) (zk cX12_say 8 (.getfield 20) 3)))) (and (and (and (and (zk cX12_say 11 (.iconst 2) 1) (zk cX12_say 12 (.iaload) 1)) (zk cX12_say 13 (.iconst 1) 1)) (and (zk cX12_say 14 (.isub) 1) (zk cX12_say 15 (.invokestatic 155) 3))) (and (and (and (zk cX12_say 18 (.ifCond .ne 5) 3) (zk cX12_say 23 (.iconst 0) 1)) (zk cX12_say 24 (.istore_n 2) 1)) (and (zk cX12_say 21 (.iconst (-1)) 1) (zk cX12_say 22 (.ireturn) 1))))) = true := by decide +kernel
theorem dX12_say_53 : decode cX12_say 53 = .ok (.if_icmp .gt 7, 3) := zk_of (zk_l (zk_l (zk_l (zk_l (zk_l zdX12_say_53)))))
theorem dX12_say_56 : decode cX12_say 56 = .ok (.iconst 1, 1) := zk_of (zk_r (zk_l (zk_l (zk_l (zk_l zdX12_say_53)))))
theorem dX12_say_57 : decode cX12_say 57 = .ok (.goto 4, 3) := zk_of (zk_r (zk_l (zk_l (zk_l zdX12_say_53))))
theorem dX12_say_0 : decode cX12_say 0 = .ok (.aload_n 0, 1) := zk_of (zk_l (zk_r (zk_l (zk_l zdX12_say_53))))
theorem dX12_say_1 : decode cX12_say 1 = .ok (.iconst 0, 1) := zk_of (zk_r (zk_r (zk_l (zk_l zdX12_say_53))))
theorem dX12_say_2 : decode cX12_say 2 = .ok (.putfield 151, 3) := zk_of (zk_l (zk_l (zk_l (zk_r (zk_l zdX12_say_53)))))
theorem dX12_say_5 : decode cX12_say 5 = .ok (.iload_n 1, 1) := zk_of (zk_r (zk_l (zk_l (zk_r (zk_l zdX12_say_53)))))
theorem dX12_say_6 : decode cX12_say 6 = .ok (.iconst 0, 1) := zk_of (zk_r (zk_l (zk_r (zk_l zdX12_say_53))))
theorem dX12_say_7 : decode cX12_say 7 = .ok (.aload_n 0, 1) := zk_of (zk_l (zk_r (zk_r (zk_l zdX12_say_53))))
theorem dX12_say_8 : decode cX12_say 8 = .ok (.getfield 20, 3) := zk_of (zk_r (zk_r (zk_r (zk_l zdX12_say_53))))
theorem dX12_say_11 : decode cX12_say 11 = .ok (.iconst 2, 1) := zk_of (zk_l (zk_l (zk_l (zk_l (zk_r zdX12_say_53)))))
theorem dX12_say_12 : decode cX12_say 12 = .ok (.iaload, 1) := zk_of (zk_r (zk_l (zk_l (zk_l (zk_r zdX12_say_53)))))
theorem dX12_say_13 : decode cX12_say 13 = .ok (.iconst 1, 1) := zk_of (zk_r (zk_l (zk_l (zk_r zdX12_say_53))))
theorem dX12_say_14 : decode cX12_say 14 = .ok (.isub, 1) := zk_of (zk_l (zk_r (zk_l (zk_r zdX12_say_53))))
theorem dX12_say_15 : decode cX12_say 15 = .ok (.invokestatic 155, 3) := zk_of (zk_r (zk_r (zk_l (zk_r zdX12_say_53))))
theorem dX12_say_18 : decode cX12_say 18 = .ok (.ifCond .ne 5, 3) := zk_of (zk_l (zk_l (zk_l (zk_r (zk_r zdX12_say_53)))))
theorem dX12_say_23 : decode cX12_say 23 = .ok (.iconst 0, 1) := zk_of (zk_r (zk_l (zk_l (zk_r (zk_r zdX12_say_53)))))
theorem dX12_say_24 : decode cX12_say 24 = .ok (.istore_n 2, 1) := zk_of (zk_r (zk_l (zk_r (zk_r zdX12_say_53))))
theorem dX12_say_21 : decode cX12_say 21 = .ok (.iconst (-1), 1) := zk_of (zk_l (zk_r (zk_r (zk_r zdX12_say_53))))
theorem dX12_say_22 : decode cX12_say 22 = .ok (.ireturn, 1) := zk_of (zk_r (zk_r (zk_r (zk_r zdX12_say_53))))
set_option maxRecDepth 20000 in
theorem ggX12_say_X12_isIn : GoodIn wsX12_say wsX12_isIn := ggi (fun w h => List.mem_cons_of_mem _ (List.mem_append_left _ (List.mem_append_right _ (List.mem_append_right _ (List.mem_append_right _ (List.mem_append_right _ h)))))) gs_X12_isIn
set_option maxRecDepth 20000 in
theorem gX12_say_X12_isIn : GoodIn wsX12_say (va_wsS RX12 155 yX12_isIn wsX12_isIn) := goodIn_app (goodIn_of _ (by decide +kernel)) ggX12_say_X12_isIn
/-- HissHornModel.say(I)I of cell 0 -/
def rmX12_say_0 : Room := { frames := 143, cells := 0, slots := 0, locals := 8547 }
theorem hX12_say_0_X12 : ∀ w ∈ u_ws RX12 TX12 69, w ∈ wsX12_say := fun w h => (List.mem_cons_of_mem _ (List.mem_append_right _ h))
theorem mX12_say_0_1 : Cond.fieldLink RX12 151 "HissHornModel" "thrown" "I" ∈ wsX12_say := (List.mem_cons_of_mem _ (List.mem_append_left _ (List.mem_append_left _ (List.mem_of_getElem? (i := 12) rfl))))
theorem mX12_say_0_2 : Cond.fieldLink RX12 20 "HissHornModel" "textMany" "[I" ∈ wsX12_say := (List.mem_cons_of_mem _ (List.mem_append_left _ (List.mem_append_left _ (List.mem_of_getElem? (i := 13) rfl))))
theorem mX12_say_0_3 : Cond.fieldLink RX12 159 "HissHornModel" "now" "I" ∈ wsX12_say := (List.mem_cons_of_mem _ (List.mem_append_left _ (List.mem_append_left _ (List.mem_of_getElem? (i := 14) rfl))))
theorem mX12_say_0_4 : Cond.fieldLink RX12 365 "HissHornModel" "knownMany" "I" ∈ wsX12_say := (List.mem_cons_of_mem _ (List.mem_append_left _ (List.mem_append_left _ (List.mem_of_getElem? (i := 15) rfl))))
theorem mX12_say_0_5 : Cond.fieldLink RX12 301 "HissHornModel" "events" "I" ∈ wsX12_say := (List.mem_cons_of_mem _ (List.mem_append_left _ (List.mem_append_left _ (List.mem_of_getElem? (i := 16) rfl))))
theorem mX12_say_0_6 : Cond.fieldLink RX12 50 "HissHornModel" "eventLook" "[I" ∈ wsX12_say := (List.mem_cons_of_mem _ (List.mem_append_left _ (List.mem_append_left _ (List.mem_of_getElem? (i := 17) rfl))))
def GX12_say_0_106 (k68 : Int32 → Int32 → Int32 → Int32 → Int32 → SX → Option (Int32 × SX)) (z1 : Int32) (z2 : Int32) (z3 : Int32) (z5 : Int32) (y0 : Int32) (y1 : Int32) (u : SX) : Option (Int32 × SX) := (lt (y1 + y0) fun v11 => (k68 z1 z2 z3 v11 (z5 + 1) u))
def GX12_say_0_105 (k68 : Int32 → Int32 → Int32 → Int32 → Int32 → SX → Option (Int32 × SX)) (z1 : Int32) (z2 : Int32) (z3 : Int32) (z5 : Int32) (y0 : Int32) (u : SX) : Option (Int32 × SX) := (GX12_say_0_106 k68 z1 z2 z3 z5 0 y0 u)
theorem mX12_say_0_7 : Cond.fieldLink RX12 62 "HissHornModel" "eventDay" "[I" ∈ wsX12_say := (List.mem_cons_of_mem _ (List.mem_append_left _ (List.mem_append_left _ (List.mem_of_getElem? (i := 18) rfl))))
def LX12_say_0_68 (k115 : Int32 → Int32 → Int32 → Int32 → SX → Option (Int32 × SX)) : Nat → Int32 → Int32 → Int32 → Int32 → Int32 → SX → Option (Int32 × SX)
  | 0, _, _, _, _, _, _ => none
  | n + 1, z1, z2, z3, z4, z5, u => (if (u.1 13) ≤ z5 then (k115 z1 z2 z3 z4 u) else (gd (inb z5 30) (if (u.2.1 11 z5.toNatClampNeg) = (-1) then (GX12_say_0_105 (LX12_say_0_68 k115 n) z1 z2 z3 z5 z4 u) else (gd (inb z5 30) (if z2 < (u.2.1 15 z5.toNatClampNeg) then (GX12_say_0_105 (LX12_say_0_68 k115 n) z1 z2 z3 z5 z4 u) else (GX12_say_0_106 (LX12_say_0_68 k115 n) z1 z2 z3 z5 1 z4 u))))))
theorem mX12_say_0_8 : Cond.fieldLink RX12 23 "HissHornModel" "letters" "[I" ∈ wsX12_say := (List.mem_cons_of_mem _ (List.mem_append_left _ (List.mem_append_left _ (List.mem_of_getElem? (i := 19) rfl))))
def GX12_say_0_172 (k25 : Int32 → Int32 → SX → Option (Int32 × SX)) (z1 : Int32) (z2 : Int32) (z4 : Int32) (y0 : Int32) (y1 : Int32) (u : SX) : Option (Int32 × SX) := (gd (inb y1 128) (lt (sA u 5 (upd (u.2.1 5) y1.toNatClampNeg y0)) fun u24 => (gd (inb 107 128) (lt (sA u24 5 (upd (u24.2.1 5) (107 : Int32).toNatClampNeg z4)) fun u27 => (gd (inb 116 128) (lt (sA u27 5 (upd (u27.2.1 5) (116 : Int32).toNatClampNeg z2)) fun u30 => ((fX12_worthOf_0 2 z1 u30).bind fun q => match q with | (r32, u33) => (if r32 = 0 then (k25 z1 (z2 + 1) u33) else (some (z2, u33))))))))))
theorem mX12_say_0_9 : Cond.fieldLink RX12 368 "HissHornModel" "alikeFrom" "I" ∈ wsX12_say := (List.mem_cons_of_mem _ (List.mem_append_left _ (List.mem_append_left _ (List.mem_of_getElem? (i := 20) rfl))))
def GX12_say_0_153 (k25 : Int32 → Int32 → SX → Option (Int32 × SX)) (z1 : Int32) (z2 : Int32) (z3 : Int32) (z4 : Int32) (y0 : Int32) (y1 : Int32) (u : SX) : Option (Int32 × SX) := (gd (inb y1 128) (lt (sA u 5 (upd (u.2.1 5) y1.toNatClampNeg y0)) fun u21 => (if z3 = 0 then (GX12_say_0_172 k25 z1 z2 z4 0 98 u21) else (GX12_say_0_172 k25 z1 z2 z4 (u21.1 19) 98 u21))))
theorem mX12_say_0_10 : Cond.fieldLink RX12 371 "HissHornModel" "alikeTo" "I" ∈ wsX12_say := (List.mem_cons_of_mem _ (List.mem_append_left _ (List.mem_append_left _ (List.mem_of_getElem? (i := 21) rfl))))
def GX12_say_0_115 (k25 : Int32 → Int32 → SX → Option (Int32 × SX)) (z1 : Int32) (z2 : Int32) (z3 : Int32) (z4 : Int32) (u : SX) : Option (Int32 × SX) := ((fX12_noLetters_0  u).bind fun q => match q with | (r14, u15) => (gd (inb 110 128) (lt (sA u15 5 (upd (u15.2.1 5) (110 : Int32).toNatClampNeg (u15.1 18))) fun u18 => (if z3 = 0 then (GX12_say_0_153 k25 z1 z2 z3 z4 0 103 u18) else (GX12_say_0_153 k25 z1 z2 z3 z4 ((u18.1 20) - (u18.1 19)) 103 u18)))))
def GX12_say_0_61 (k25 : Int32 → Int32 → SX → Option (Int32 × SX)) (z1 : Int32) (z2 : Int32) (y0 : Int32) (u : SX) : Option (Int32 × SX) := (LX12_say_0_68 (GX12_say_0_115 k25) 5000 z1 z2 y0 0 0 u)
def GX12_say_0_60 (k25 : Int32 → Int32 → SX → Option (Int32 × SX)) (z1 : Int32) (z2 : Int32) (u : SX) : Option (Int32 × SX) := (GX12_say_0_61 k25 z1 z2 0 u)
def LX12_say_0_25  : Nat → Int32 → Int32 → SX → Option (Int32 × SX)
  | 0, _, _, _ => none
  | n + 1, z1, z2, u => (if (u.1 1) < z2 then (some ((-1), u)) else ((fX12_layAlike_0 z2 u).bind fun q => match q with | (r7, u8) => (if (u8.1 18) ≤ 0 then (GX12_say_0_60 (LX12_say_0_25 n) z1 z2 u8) else (if (u8.1 20) < (u8.1 19) then (GX12_say_0_60 (LX12_say_0_25 n) z1 z2 u8) else (GX12_say_0_61 (LX12_say_0_25 n) z1 z2 1 u8)))))
def fX12_say_0 (x1 : Int32) (u : SX) : Option (Int32 × SX) := (lt (sI u 0 0) fun u1 => (gd (inb 2 3) ((fX12_isIn x1 0 ((u1.2.1 4 (2 : Int32).toNatClampNeg) - 1)).bind fun r4 => (if r4 = 0 then (some ((-1), u1)) else (LX12_say_0_25  5000 x1 0 u1)))))
set_option maxHeartbeats 4000000 in
set_option maxRecDepth 100000 in
theorem wGX12_say_0_106 {p : Program} {l : Launch} {e : Env} {s : State} {m : MethodId} {args : Array Value} {below : List Frame} {meth : Method} {c : Code} {D : va_G} {cy : Nat → ClassId} {ad st : Nat → Nat} (C : Cx RX12 cX12_say 6 (some .int) wsX12_say p s m args meth c) (hK : Ky D [(cy 0, .int), (cy 1, .long), (cy 2, .boolean), (cy 3, .byte), (cy 4, .object "HissHorn$Text")] st s) (hJ : JM ad st) {r : Int32} {u' : SX} {k68 : Int32 → Int32 → Int32 → Int32 → Int32 → SX → Option (Int32 × SX)} (hk68 : ∀ (z1 : Int32) (z2 : Int32) (z3 : Int32) (z4 : Int32) (z5 : Int32) (u : SX) (H : Heap) (locs : List Loc) (ls : Array Slot), k68 z1 z2 z3 z4 z5 u = some (r, u') → va_P D vwCl (VM cy ad st u) H → va_S (Ax (AM ad) s.heap.size) s.heap H locs → lv_has ls 6 [(0, .ref (ad 0)), (1, .int z1), (2, .int z2), (3, .int z3), (4, .int z4), (5, .int z5)] → W p l e rmX12_say_0 s m args below meth c H locs 0 0 (MQ below (Qi D (VM cy ad st) (AM ad) s.heap.size r u') args s 0 0 (Ax (AM ad) s.heap.size)) (F0 m 68 ls [])) (z1 : Int32) (z2 : Int32) (z3 : Int32) (z5 : Int32) (y0 : Int32) (y1 : Int32) (u : SX) (H : Heap) (locs : List Loc) (ls : Array Slot) (h : GX12_say_0_106 k68 z1 z2 z3 z5 y0 y1 u = some (r, u')) (hP : va_P D vwCl (VM cy ad st u) H) (hS : va_S (Ax (AM ad) s.heap.size) s.heap H locs) (hl : lv_has ls 6 [(0, .ref (ad 0)), (1, .int z1), (2, .int z2), (3, .int z3), (5, .int z5)]) : W p l e rmX12_say_0 s m args below meth c H locs 0 0 (MQ below (Qi D (VM cy ad st) (AM ad) s.heap.size r u') args s 0 0 (Ax (AM ad) s.heap.size)) (F0 m 106 ls [.int y0, .int y1]) := by
  unfold GX12_say_0_106 at h
  refine lv_iadd C.1 C.2.1 dX12_say_106 ?_
  refine lv_topi (fun v11 hv12 => ?_)
  replace h := lt_e hv12 h
  try dsimp only at h
  refine lv_istore (lv' := [(4, .int v11), (0, .ref (ad 0)), (1, .int z1), (2, .int z2), (3, .int z3), (5, .int z5)]) C.1 C.2.1 dX12_say_107 hl (by decide) rfl (fun ls hl => ?_)
  replace hl := lv_sub (l' := [(0, .ref (ad 0)), (1, .int z1), (2, .int z2), (3, .int z3), (4, .int v11), (5, .int z5)]) hl [1, 2, 3, 4, 0, 5] rfl
  refine lv_iinc (v := z5 + 1) (lv' := [(5, .int (z5 + 1)), (0, .ref (ad 0)), (1, .int z1), (2, .int z2), (3, .int z3), (4, .int v11)]) C.1 C.2.1 dX12_say_109 hl (k := 5) rfl rfl (by decide) rfl (fun ls hl => ?_)
  replace hl := lv_sub (l' := [(0, .ref (ad 0)), (1, .int z1), (2, .int z2), (3, .int z3), (4, .int v11), (5, .int (z5 + 1))]) hl [1, 2, 3, 4, 5, 0] rfl
  refine lv_goto (tgt := 68) C.1 C.2.1 dX12_say_112 (by decide) ?_
  exact hk68 _ _ _ _ _ _ _ _ _ h hP hS hl
set_option maxHeartbeats 4000000 in
set_option maxRecDepth 100000 in
theorem wGX12_say_0_105 {p : Program} {l : Launch} {e : Env} {s : State} {m : MethodId} {args : Array Value} {below : List Frame} {meth : Method} {c : Code} {D : va_G} {cy : Nat → ClassId} {ad st : Nat → Nat} (C : Cx RX12 cX12_say 6 (some .int) wsX12_say p s m args meth c) (hK : Ky D [(cy 0, .int), (cy 1, .long), (cy 2, .boolean), (cy 3, .byte), (cy 4, .object "HissHorn$Text")] st s) (hJ : JM ad st) {r : Int32} {u' : SX} {k68 : Int32 → Int32 → Int32 → Int32 → Int32 → SX → Option (Int32 × SX)} (hk68 : ∀ (z1 : Int32) (z2 : Int32) (z3 : Int32) (z4 : Int32) (z5 : Int32) (u : SX) (H : Heap) (locs : List Loc) (ls : Array Slot), k68 z1 z2 z3 z4 z5 u = some (r, u') → va_P D vwCl (VM cy ad st u) H → va_S (Ax (AM ad) s.heap.size) s.heap H locs → lv_has ls 6 [(0, .ref (ad 0)), (1, .int z1), (2, .int z2), (3, .int z3), (4, .int z4), (5, .int z5)] → W p l e rmX12_say_0 s m args below meth c H locs 0 0 (MQ below (Qi D (VM cy ad st) (AM ad) s.heap.size r u') args s 0 0 (Ax (AM ad) s.heap.size)) (F0 m 68 ls [])) (z1 : Int32) (z2 : Int32) (z3 : Int32) (z5 : Int32) (y0 : Int32) (u : SX) (H : Heap) (locs : List Loc) (ls : Array Slot) (h : GX12_say_0_105 k68 z1 z2 z3 z5 y0 u = some (r, u')) (hP : va_P D vwCl (VM cy ad st u) H) (hS : va_S (Ax (AM ad) s.heap.size) s.heap H locs) (hl : lv_has ls 6 [(0, .ref (ad 0)), (1, .int z1), (2, .int z2), (3, .int z3), (5, .int z5)]) : W p l e rmX12_say_0 s m args below meth c H locs 0 0 (MQ below (Qi D (VM cy ad st) (AM ad) s.heap.size r u') args s 0 0 (Ax (AM ad) s.heap.size)) (F0 m 105 ls [.int y0]) := by
  unfold GX12_say_0_105 at h
  refine lv_iconst (v := 0) C.1 C.2.1 dX12_say_105 (by decide) ?_
  exact wGX12_say_0_106 C hK hJ hk68 _ _ _ _ _ _ _ _ _ _ h hP hS hl
set_option maxHeartbeats 4000000 in
set_option maxRecDepth 100000 in
theorem wLX12_say_0_68 {p : Program} {l : Launch} {e : Env} {s : State} {m : MethodId} {args : Array Value} {below : List Frame} {meth : Method} {c : Code} {D : va_G} {cy : Nat → ClassId} {ad st : Nat → Nat} (C : Cx RX12 cX12_say 6 (some .int) wsX12_say p s m args meth c) (hK : Ky D [(cy 0, .int), (cy 1, .long), (cy 2, .boolean), (cy 3, .byte), (cy 4, .object "HissHorn$Text")] st s) (hJ : JM ad st) {r : Int32} {u' : SX} {k115 : Int32 → Int32 → Int32 → Int32 → SX → Option (Int32 × SX)} (hk115 : ∀ (z1 : Int32) (z2 : Int32) (z3 : Int32) (z4 : Int32) (u : SX) (H : Heap) (locs : List Loc) (ls : Array Slot), k115 z1 z2 z3 z4 u = some (r, u') → va_P D vwCl (VM cy ad st u) H → va_S (Ax (AM ad) s.heap.size) s.heap H locs → lv_has ls 6 [(0, .ref (ad 0)), (1, .int z1), (2, .int z2), (3, .int z3), (4, .int z4)] → W p l e rmX12_say_0 s m args below meth c H locs 0 0 (MQ below (Qi D (VM cy ad st) (AM ad) s.heap.size r u') args s 0 0 (Ax (AM ad) s.heap.size)) (F0 m 115 ls [])) : ∀ (n : Nat) (z1 : Int32) (z2 : Int32) (z3 : Int32) (z4 : Int32) (z5 : Int32) (u : SX) (H : Heap) (locs : List Loc) (ls : Array Slot), LX12_say_0_68 k115 n z1 z2 z3 z4 z5 u = some (r, u') → va_P D vwCl (VM cy ad st u) H → va_S (Ax (AM ad) s.heap.size) s.heap H locs → lv_has ls 6 [(0, .ref (ad 0)), (1, .int z1), (2, .int z2), (3, .int z3), (4, .int z4), (5, .int z5)] → W p l e rmX12_say_0 s m args below meth c H locs 0 0 (MQ below (Qi D (VM cy ad st) (AM ad) s.heap.size r u') args s 0 0 (Ax (AM ad) s.heap.size)) (F0 m 68 ls []) := by
  intro n
  induction n with
  | zero =>
    intro z1 z2 z3 z4 z5 u H locs ls h
    exact absurd h (by intro q; cases q)
  | succ n ih =>
    intro z1 z2 z3 z4 z5 u H locs ls h hP hS hl
    rw [LX12_say_0_68] at h
    refine lv_iload C.1 C.2.1 dX12_say_68 (lv_at hl 5 rfl) ?_
    refine lv_aload_n C.1 C.2.1 dX12_say_70 rfl (lv_at hl 0 rfl) ?_
    refine gM_0_events C hX12_say_0_X12 hK hP mX12_say_0_5 dX12_say_71 ?_
    refine lv_icmp_ge (tgt := 115) C.1 C.2.1 dX12_say_74 (by decide) (fun c74 => ?_) (fun c74 => ?_)
    · rw [if_pos c74] at h
      exact hk115 _ _ _ _ _ _ _ _ h hP hS (lv_sub hl [0, 1, 2, 3, 4] rfl)
    · rw [if_neg c74] at h
      refine lv_iload C.1 C.2.1 dX12_say_77 (lv_at hl 4 rfl) ?_
      refine lv_aload_n C.1 C.2.1 dX12_say_79 rfl (lv_at hl 0 rfl) ?_
      refine gM_0_eventLook C hX12_say_0_X12 hK hP mX12_say_0_6 dX12_say_80 ?_
      refine lv_iload C.1 C.2.1 dX12_say_83 (lv_at hl 5 rfl) ?_
      obtain ⟨hg10, h⟩ := gd_some h
      refine lM_11 C hK hP hg10 dX12_say_85 ?_
      refine lv_iconst (v := (-1)) C.1 C.2.1 dX12_say_86 (by decide) ?_
      refine lv_icmp_eq (tgt := 105) C.1 C.2.1 dX12_say_87 (by decide) (fun c87 => ?_) (fun c87 => ?_)
      · rw [if_pos c87] at h
        exact wGX12_say_0_105 C hK hJ ih _ _ _ _ _ _ _ _ _ h hP hS (lv_sub hl [0, 1, 2, 3, 5] rfl)
      · rw [if_neg c87] at h
        refine lv_aload_n C.1 C.2.1 dX12_say_90 rfl (lv_at hl 0 rfl) ?_
        refine gM_0_eventDay C hX12_say_0_X12 hK hP mX12_say_0_7 dX12_say_91 ?_
        refine lv_iload C.1 C.2.1 dX12_say_94 (lv_at hl 5 rfl) ?_
        obtain ⟨hg13, h⟩ := gd_some h
        refine lM_15 C hK hP hg13 dX12_say_96 ?_
        refine lv_iload_n C.1 C.2.1 dX12_say_97 rfl (lv_at hl 2 rfl) ?_
        refine lv_icmp_gt (tgt := 105) C.1 C.2.1 dX12_say_98 (by decide) (fun c98 => ?_) (fun c98 => ?_)
        · rw [if_pos c98] at h
          exact wGX12_say_0_105 C hK hJ ih _ _ _ _ _ _ _ _ _ h hP hS (lv_sub hl [0, 1, 2, 3, 5] rfl)
        · rw [if_neg c98] at h
          refine lv_iconst (v := 1) C.1 C.2.1 dX12_say_101 (by decide) ?_
          refine lv_goto (tgt := 106) C.1 C.2.1 dX12_say_102 (by decide) ?_
          exact wGX12_say_0_106 C hK hJ ih _ _ _ _ _ _ _ _ _ _ h hP hS (lv_sub hl [0, 1, 2, 3, 5] rfl)
set_option maxHeartbeats 4000000 in
set_option maxRecDepth 100000 in
theorem wGX12_say_0_172 {p : Program} {l : Launch} {e : Env} {s : State} {m : MethodId} {args : Array Value} {below : List Frame} {meth : Method} {c : Code} {D : va_G} {cy : Nat → ClassId} {ad st : Nat → Nat} (C : Cx RX12 cX12_say 6 (some .int) wsX12_say p s m args meth c) (hK : Ky D [(cy 0, .int), (cy 1, .long), (cy 2, .boolean), (cy 3, .byte), (cy 4, .object "HissHorn$Text")] st s) (hJ : JM ad st) {r : Int32} {u' : SX} {k25 : Int32 → Int32 → SX → Option (Int32 × SX)} (hk25 : ∀ (z1 : Int32) (z2 : Int32) (u : SX) (H : Heap) (locs : List Loc) (ls : Array Slot), k25 z1 z2 u = some (r, u') → va_P D vwCl (VM cy ad st u) H → va_S (Ax (AM ad) s.heap.size) s.heap H locs → lv_has ls 6 [(0, .ref (ad 0)), (1, .int z1), (2, .int z2)] → W p l e rmX12_say_0 s m args below meth c H locs 0 0 (MQ below (Qi D (VM cy ad st) (AM ad) s.heap.size r u') args s 0 0 (Ax (AM ad) s.heap.size)) (F0 m 25 ls [])) (z1 : Int32) (z2 : Int32) (z4 : Int32) (y0 : Int32) (y1 : Int32) (u : SX) (H : Heap) (locs : List Loc) (ls : Array Slot) (h : GX12_say_0_172 k25 z1 z2 z4 y0 y1 u = some (r, u')) (hP : va_P D vwCl (VM cy ad st u) H) (hS : va_S (Ax (AM ad) s.heap.size) s.heap H locs) (hl : lv_has ls 6 [(0, .ref (ad 0)), (1, .int z1), (2, .int z2), (4, .int z4)]) : W p l e rmX12_say_0 s m args below meth c H locs 0 0 (MQ below (Qi D (VM cy ad st) (AM ad) s.heap.size r u') args s 0 0 (Ax (AM ad) s.heap.size)) (F0 m 172 ls [.int y0, .int y1, .ref (ad 5)]) := by
  unfold GX12_say_0_172 at h
  obtain ⟨hg23, h⟩ := gd_some h
  refine tM_5 C hK hP hJ hS hg23 dX12_say_172 (fun H locs hP hS => ?_)
  obtain ⟨u24, hu25, h⟩ := lt_some h
  rw [← hu25] at hP
  refine lv_aload_n C.1 C.2.1 dX12_say_173 rfl (lv_at hl 0 rfl) ?_
  refine gM_0_letters C hX12_say_0_X12 hK hP mX12_say_0_8 dX12_say_174 ?_
  refine lv_bipush (v := 107) C.1 C.2.1 dX12_say_177 (by decide) ?_
  refine lv_iload C.1 C.2.1 dX12_say_179 (lv_at hl 3 rfl) ?_
  obtain ⟨hg26, h⟩ := gd_some h
  refine tM_5 C hK hP hJ hS hg26 dX12_say_181 (fun H locs hP hS => ?_)
  obtain ⟨u27, hu28, h⟩ := lt_some h
  rw [← hu28] at hP
  refine lv_aload_n C.1 C.2.1 dX12_say_182 rfl (lv_at hl 0 rfl) ?_
  refine gM_0_letters C hX12_say_0_X12 hK hP mX12_say_0_8 dX12_say_183 ?_
  refine lv_bipush (v := 116) C.1 C.2.1 dX12_say_186 (by decide) ?_
  refine lv_iload_n C.1 C.2.1 dX12_say_188 rfl (lv_at hl 2 rfl) ?_
  obtain ⟨hg29, h⟩ := gd_some h
  refine tM_5 C hK hP hJ hS hg29 dX12_say_189 (fun H locs hP hS => ?_)
  obtain ⟨u30, hu31, h⟩ := lt_some h
  rw [← hu31] at hP
  refine lv_aload_n C.1 C.2.1 dX12_say_190 rfl (lv_at hl 0 rfl) ?_
  refine lv_iconst (v := 2) C.1 C.2.1 dX12_say_191 (by decide) ?_
  refine lv_iload_n C.1 C.2.1 dX12_say_192 rfl (lv_at hl 1 rfl) ?_
  obtain ⟨⟨r32, u33⟩, hc34, h⟩ := bd_some h
  try dsimp only at h
  refine cg_i (As := [.int 2, .int z1]) (rest := []) (AM_ge hJ) C hK hP hS (metX12_worthOf_0 l D cy ad st hJ _ 2 z1 hc34) (cwV 2 C.2.2.2.2.2.1 gX12_say_X12_worthOf rfl rfl rfl (by decide +kernel) ⟨(Nat.le_of_ble_eq_true rfl), (Nat.le_of_ble_eq_true rfl)⟩) 0 12 rfl rfl rfl hl.1 rfl (Nat.le_of_ble_eq_true rfl) dX12_say_193 ⟨Nat.zero_le _, Nat.zero_le _⟩ (fun H locs hP hS => ?_)
  refine lv_if_eq (tgt := 201) C.1 C.2.1 dX12_say_196 (by decide) (fun c196 => ?_) (fun c196 => ?_)
  · rw [if_pos c196] at h
    refine lv_iinc (v := z2 + 1) (lv' := [(2, .int (z2 + 1)), (0, .ref (ad 0)), (1, .int z1), (4, .int z4)]) C.1 C.2.1 dX12_say_201 hl (k := 2) rfl rfl (by decide) rfl (fun ls hl => ?_)
    replace hl := lv_sub (l' := [(0, .ref (ad 0)), (1, .int z1), (2, .int (z2 + 1)), (4, .int z4)]) hl [1, 2, 0, 3] rfl
    refine lv_goto (tgt := 25) C.1 C.2.1 dX12_say_204 (by decide) ?_
    exact hk25 _ _ _ _ _ _ h hP hS (lv_sub hl [0, 1, 2] rfl)
  · rw [if_neg c196] at h
    refine lv_iload_n C.1 C.2.1 dX12_say_199 rfl (lv_at hl 2 rfl) ?_
    cases h
    exact rt_i C hP hS dX12_say_200
set_option maxHeartbeats 4000000 in
set_option maxRecDepth 100000 in
theorem wGX12_say_0_153 {p : Program} {l : Launch} {e : Env} {s : State} {m : MethodId} {args : Array Value} {below : List Frame} {meth : Method} {c : Code} {D : va_G} {cy : Nat → ClassId} {ad st : Nat → Nat} (C : Cx RX12 cX12_say 6 (some .int) wsX12_say p s m args meth c) (hK : Ky D [(cy 0, .int), (cy 1, .long), (cy 2, .boolean), (cy 3, .byte), (cy 4, .object "HissHorn$Text")] st s) (hJ : JM ad st) {r : Int32} {u' : SX} {k25 : Int32 → Int32 → SX → Option (Int32 × SX)} (hk25 : ∀ (z1 : Int32) (z2 : Int32) (u : SX) (H : Heap) (locs : List Loc) (ls : Array Slot), k25 z1 z2 u = some (r, u') → va_P D vwCl (VM cy ad st u) H → va_S (Ax (AM ad) s.heap.size) s.heap H locs → lv_has ls 6 [(0, .ref (ad 0)), (1, .int z1), (2, .int z2)] → W p l e rmX12_say_0 s m args below meth c H locs 0 0 (MQ below (Qi D (VM cy ad st) (AM ad) s.heap.size r u') args s 0 0 (Ax (AM ad) s.heap.size)) (F0 m 25 ls [])) (z1 : Int32) (z2 : Int32) (z3 : Int32) (z4 : Int32) (y0 : Int32) (y1 : Int32) (u : SX) (H : Heap) (locs : List Loc) (ls : Array Slot) (h : GX12_say_0_153 k25 z1 z2 z3 z4 y0 y1 u = some (r, u')) (hP : va_P D vwCl (VM cy ad st u) H) (hS : va_S (Ax (AM ad) s.heap.size) s.heap H locs) (hl : lv_has ls 6 [(0, .ref (ad 0)), (1, .int z1), (2, .int z2), (3, .int z3), (4, .int z4)]) : W p l e rmX12_say_0 s m args below meth c H locs 0 0 (MQ below (Qi D (VM cy ad st) (AM ad) s.heap.size r u') args s 0 0 (Ax (AM ad) s.heap.size)) (F0 m 153 ls [.int y0, .int y1, .ref (ad 5)]) := by
  unfold GX12_say_0_153 at h
  obtain ⟨hg20, h⟩ := gd_some h
  refine tM_5 C hK hP hJ hS hg20 dX12_say_153 (fun H locs hP hS => ?_)
  obtain ⟨u21, hu22, h⟩ := lt_some h
  rw [← hu22] at hP
  refine lv_aload_n C.1 C.2.1 dX12_say_154 rfl (lv_at hl 0 rfl) ?_
  refine gM_0_letters C hX12_say_0_X12 hK hP mX12_say_0_8 dX12_say_155 ?_
  refine lv_bipush (v := 98) C.1 C.2.1 dX12_say_158 (by decide) ?_
  refine lv_iload_n C.1 C.2.1 dX12_say_160 rfl (lv_at hl 3 rfl) ?_
  refine lv_if_eq (tgt := 171) C.1 C.2.1 dX12_say_161 (by decide) (fun c161 => ?_) (fun c161 => ?_)
  · rw [if_pos c161] at h
    refine lv_iconst (v := 0) C.1 C.2.1 dX12_say_171 (by decide) ?_
    exact wGX12_say_0_172 C hK hJ hk25 _ _ _ _ _ _ _ _ _ h hP hS (lv_sub hl [0, 1, 2, 4] rfl)
  · rw [if_neg c161] at h
    refine lv_aload_n C.1 C.2.1 dX12_say_164 rfl (lv_at hl 0 rfl) ?_
    refine gM_0_alikeFrom C hX12_say_0_X12 hK hP mX12_say_0_9 dX12_say_165 ?_
    refine lv_goto (tgt := 172) C.1 C.2.1 dX12_say_168 (by decide) ?_
    exact wGX12_say_0_172 C hK hJ hk25 _ _ _ _ _ _ _ _ _ h hP hS (lv_sub hl [0, 1, 2, 4] rfl)
set_option maxHeartbeats 4000000 in
set_option maxRecDepth 100000 in
theorem wGX12_say_0_115 {p : Program} {l : Launch} {e : Env} {s : State} {m : MethodId} {args : Array Value} {below : List Frame} {meth : Method} {c : Code} {D : va_G} {cy : Nat → ClassId} {ad st : Nat → Nat} (C : Cx RX12 cX12_say 6 (some .int) wsX12_say p s m args meth c) (hK : Ky D [(cy 0, .int), (cy 1, .long), (cy 2, .boolean), (cy 3, .byte), (cy 4, .object "HissHorn$Text")] st s) (hJ : JM ad st) {r : Int32} {u' : SX} {k25 : Int32 → Int32 → SX → Option (Int32 × SX)} (hk25 : ∀ (z1 : Int32) (z2 : Int32) (u : SX) (H : Heap) (locs : List Loc) (ls : Array Slot), k25 z1 z2 u = some (r, u') → va_P D vwCl (VM cy ad st u) H → va_S (Ax (AM ad) s.heap.size) s.heap H locs → lv_has ls 6 [(0, .ref (ad 0)), (1, .int z1), (2, .int z2)] → W p l e rmX12_say_0 s m args below meth c H locs 0 0 (MQ below (Qi D (VM cy ad st) (AM ad) s.heap.size r u') args s 0 0 (Ax (AM ad) s.heap.size)) (F0 m 25 ls [])) (z1 : Int32) (z2 : Int32) (z3 : Int32) (z4 : Int32) (u : SX) (H : Heap) (locs : List Loc) (ls : Array Slot) (h : GX12_say_0_115 k25 z1 z2 z3 z4 u = some (r, u')) (hP : va_P D vwCl (VM cy ad st u) H) (hS : va_S (Ax (AM ad) s.heap.size) s.heap H locs) (hl : lv_has ls 6 [(0, .ref (ad 0)), (1, .int z1), (2, .int z2), (3, .int z3), (4, .int z4)]) : W p l e rmX12_say_0 s m args below meth c H locs 0 0 (MQ below (Qi D (VM cy ad st) (AM ad) s.heap.size r u') args s 0 0 (Ax (AM ad) s.heap.size)) (F0 m 115 ls []) := by
  unfold GX12_say_0_115 at h
  refine lv_aload_n C.1 C.2.1 dX12_say_115 rfl (lv_at hl 0 rfl) ?_
  obtain ⟨⟨r14, u15⟩, hc16, h⟩ := bd_some h
  try dsimp only at h
  refine cg_v (As := []) (rest := []) (AM_ge hJ) C hK hP hS (metX12_noLetters_0 l D cy ad st hJ _  hc16) (cwV 0 C.2.2.2.2.2.1 gX12_say_X12_noLetters rfl rfl rfl (by decide +kernel) ⟨(Nat.le_of_ble_eq_true rfl), (Nat.le_of_ble_eq_true rfl)⟩) 0 12 rfl rfl rfl hl.1 rfl (Nat.le_of_ble_eq_true rfl) dX12_say_116 ⟨Nat.zero_le _, Nat.zero_le _⟩ (fun H locs hP hS => ?_)
  refine lv_aload_n C.1 C.2.1 dX12_say_119 rfl (lv_at hl 0 rfl) ?_
  refine gM_0_letters C hX12_say_0_X12 hK hP mX12_say_0_8 dX12_say_120 ?_
  refine lv_bipush (v := 110) C.1 C.2.1 dX12_say_123 (by decide) ?_
  refine lv_aload_n C.1 C.2.1 dX12_say_125 rfl (lv_at hl 0 rfl) ?_
  refine gM_0_knownMany C hX12_say_0_X12 hK hP mX12_say_0_4 dX12_say_126 ?_
  obtain ⟨hg17, h⟩ := gd_some h
  refine tM_5 C hK hP hJ hS hg17 dX12_say_129 (fun H locs hP hS => ?_)
  obtain ⟨u18, hu19, h⟩ := lt_some h
  rw [← hu19] at hP
  refine lv_aload_n C.1 C.2.1 dX12_say_130 rfl (lv_at hl 0 rfl) ?_
  refine gM_0_letters C hX12_say_0_X12 hK hP mX12_say_0_8 dX12_say_131 ?_
  refine lv_bipush (v := 103) C.1 C.2.1 dX12_say_134 (by decide) ?_
  refine lv_iload_n C.1 C.2.1 dX12_say_136 rfl (lv_at hl 3 rfl) ?_
  refine lv_if_eq (tgt := 152) C.1 C.2.1 dX12_say_137 (by decide) (fun c137 => ?_) (fun c137 => ?_)
  · rw [if_pos c137] at h
    refine lv_iconst (v := 0) C.1 C.2.1 dX12_say_152 (by decide) ?_
    exact wGX12_say_0_153 C hK hJ hk25 _ _ _ _ _ _ _ _ _ _ h hP hS hl
  · rw [if_neg c137] at h
    refine lv_aload_n C.1 C.2.1 dX12_say_140 rfl (lv_at hl 0 rfl) ?_
    refine gM_0_alikeTo C hX12_say_0_X12 hK hP mX12_say_0_10 dX12_say_141 ?_
    refine lv_aload_n C.1 C.2.1 dX12_say_144 rfl (lv_at hl 0 rfl) ?_
    refine gM_0_alikeFrom C hX12_say_0_X12 hK hP mX12_say_0_9 dX12_say_145 ?_
    refine lv_isub C.1 C.2.1 dX12_say_148 ?_
    refine lv_goto (tgt := 153) C.1 C.2.1 dX12_say_149 (by decide) ?_
    exact wGX12_say_0_153 C hK hJ hk25 _ _ _ _ _ _ _ _ _ _ h hP hS hl
set_option maxHeartbeats 4000000 in
set_option maxRecDepth 100000 in
theorem wGX12_say_0_61 {p : Program} {l : Launch} {e : Env} {s : State} {m : MethodId} {args : Array Value} {below : List Frame} {meth : Method} {c : Code} {D : va_G} {cy : Nat → ClassId} {ad st : Nat → Nat} (C : Cx RX12 cX12_say 6 (some .int) wsX12_say p s m args meth c) (hK : Ky D [(cy 0, .int), (cy 1, .long), (cy 2, .boolean), (cy 3, .byte), (cy 4, .object "HissHorn$Text")] st s) (hJ : JM ad st) {r : Int32} {u' : SX} {k25 : Int32 → Int32 → SX → Option (Int32 × SX)} (hk25 : ∀ (z1 : Int32) (z2 : Int32) (u : SX) (H : Heap) (locs : List Loc) (ls : Array Slot), k25 z1 z2 u = some (r, u') → va_P D vwCl (VM cy ad st u) H → va_S (Ax (AM ad) s.heap.size) s.heap H locs → lv_has ls 6 [(0, .ref (ad 0)), (1, .int z1), (2, .int z2)] → W p l e rmX12_say_0 s m args below meth c H locs 0 0 (MQ below (Qi D (VM cy ad st) (AM ad) s.heap.size r u') args s 0 0 (Ax (AM ad) s.heap.size)) (F0 m 25 ls [])) (z1 : Int32) (z2 : Int32) (y0 : Int32) (u : SX) (H : Heap) (locs : List Loc) (ls : Array Slot) (h : GX12_say_0_61 k25 z1 z2 y0 u = some (r, u')) (hP : va_P D vwCl (VM cy ad st u) H) (hS : va_S (Ax (AM ad) s.heap.size) s.heap H locs) (hl : lv_has ls 6 [(0, .ref (ad 0)), (1, .int z1), (2, .int z2)]) : W p l e rmX12_say_0 s m args below meth c H locs 0 0 (MQ below (Qi D (VM cy ad st) (AM ad) s.heap.size r u') args s 0 0 (Ax (AM ad) s.heap.size)) (F0 m 61 ls [.int y0]) := by
  unfold GX12_say_0_61 at h
  refine lv_istore_n (lv' := [(3, .int y0), (0, .ref (ad 0)), (1, .int z1), (2, .int z2)]) C.1 C.2.1 dX12_say_61 rfl hl (by decide) rfl (fun ls hl => ?_)
  replace hl := lv_sub (l' := [(0, .ref (ad 0)), (1, .int z1), (2, .int z2), (3, .int y0)]) hl [1, 2, 3, 0] rfl
  refine lv_iconst (v := 0) C.1 C.2.1 dX12_say_62 (by decide) ?_
  refine lv_istore (lv' := [(4, .int 0), (0, .ref (ad 0)), (1, .int z1), (2, .int z2), (3, .int y0)]) C.1 C.2.1 dX12_say_63 hl (by decide) rfl (fun ls hl => ?_)
  replace hl := lv_sub (l' := [(0, .ref (ad 0)), (1, .int z1), (2, .int z2), (3, .int y0), (4, .int 0)]) hl [1, 2, 3, 4, 0] rfl
  refine lv_iconst (v := 0) C.1 C.2.1 dX12_say_65 (by decide) ?_
  refine lv_istore (lv' := [(5, .int 0), (0, .ref (ad 0)), (1, .int z1), (2, .int z2), (3, .int y0), (4, .int 0)]) C.1 C.2.1 dX12_say_66 hl (by decide) rfl (fun ls hl => ?_)
  replace hl := lv_sub (l' := [(0, .ref (ad 0)), (1, .int z1), (2, .int z2), (3, .int y0), (4, .int 0), (5, .int 0)]) hl [1, 2, 3, 4, 5, 0] rfl
  exact wLX12_say_0_68 C hK hJ (wGX12_say_0_115 C hK hJ hk25) 5000 _ _ _ _ _ _ _ _ _ h hP hS hl
set_option maxHeartbeats 4000000 in
set_option maxRecDepth 100000 in
theorem wGX12_say_0_60 {p : Program} {l : Launch} {e : Env} {s : State} {m : MethodId} {args : Array Value} {below : List Frame} {meth : Method} {c : Code} {D : va_G} {cy : Nat → ClassId} {ad st : Nat → Nat} (C : Cx RX12 cX12_say 6 (some .int) wsX12_say p s m args meth c) (hK : Ky D [(cy 0, .int), (cy 1, .long), (cy 2, .boolean), (cy 3, .byte), (cy 4, .object "HissHorn$Text")] st s) (hJ : JM ad st) {r : Int32} {u' : SX} {k25 : Int32 → Int32 → SX → Option (Int32 × SX)} (hk25 : ∀ (z1 : Int32) (z2 : Int32) (u : SX) (H : Heap) (locs : List Loc) (ls : Array Slot), k25 z1 z2 u = some (r, u') → va_P D vwCl (VM cy ad st u) H → va_S (Ax (AM ad) s.heap.size) s.heap H locs → lv_has ls 6 [(0, .ref (ad 0)), (1, .int z1), (2, .int z2)] → W p l e rmX12_say_0 s m args below meth c H locs 0 0 (MQ below (Qi D (VM cy ad st) (AM ad) s.heap.size r u') args s 0 0 (Ax (AM ad) s.heap.size)) (F0 m 25 ls [])) (z1 : Int32) (z2 : Int32) (u : SX) (H : Heap) (locs : List Loc) (ls : Array Slot) (h : GX12_say_0_60 k25 z1 z2 u = some (r, u')) (hP : va_P D vwCl (VM cy ad st u) H) (hS : va_S (Ax (AM ad) s.heap.size) s.heap H locs) (hl : lv_has ls 6 [(0, .ref (ad 0)), (1, .int z1), (2, .int z2)]) : W p l e rmX12_say_0 s m args below meth c H locs 0 0 (MQ below (Qi D (VM cy ad st) (AM ad) s.heap.size r u') args s 0 0 (Ax (AM ad) s.heap.size)) (F0 m 60 ls []) := by
  unfold GX12_say_0_60 at h
  refine lv_iconst (v := 0) C.1 C.2.1 dX12_say_60 (by decide) ?_
  exact wGX12_say_0_61 C hK hJ hk25 _ _ _ _ _ _ _ h hP hS hl
set_option maxHeartbeats 4000000 in
set_option maxRecDepth 100000 in
theorem wLX12_say_0_25 {p : Program} {l : Launch} {e : Env} {s : State} {m : MethodId} {args : Array Value} {below : List Frame} {meth : Method} {c : Code} {D : va_G} {cy : Nat → ClassId} {ad st : Nat → Nat} (C : Cx RX12 cX12_say 6 (some .int) wsX12_say p s m args meth c) (hK : Ky D [(cy 0, .int), (cy 1, .long), (cy 2, .boolean), (cy 3, .byte), (cy 4, .object "HissHorn$Text")] st s) (hJ : JM ad st) {r : Int32} {u' : SX}   : ∀ (n : Nat) (z1 : Int32) (z2 : Int32) (u : SX) (H : Heap) (locs : List Loc) (ls : Array Slot), LX12_say_0_25  n z1 z2 u = some (r, u') → va_P D vwCl (VM cy ad st u) H → va_S (Ax (AM ad) s.heap.size) s.heap H locs → lv_has ls 6 [(0, .ref (ad 0)), (1, .int z1), (2, .int z2)] → W p l e rmX12_say_0 s m args below meth c H locs 0 0 (MQ below (Qi D (VM cy ad st) (AM ad) s.heap.size r u') args s 0 0 (Ax (AM ad) s.heap.size)) (F0 m 25 ls []) := by
  intro n
  induction n with
  | zero =>
    intro z1 z2 u H locs ls h
    exact absurd h (by intro q; cases q)
  | succ n ih =>
    intro z1 z2 u H locs ls h hP hS hl
    rw [LX12_say_0_25] at h
    refine lv_iload_n C.1 C.2.1 dX12_say_25 rfl (lv_at hl 2 rfl) ?_
    refine lv_aload_n C.1 C.2.1 dX12_say_26 rfl (lv_at hl 0 rfl) ?_
    refine gM_0_now C hX12_say_0_X12 hK hP mX12_say_0_3 dX12_say_27 ?_
    refine lv_icmp_gt (tgt := 207) C.1 C.2.1 dX12_say_30 (by decide) (fun c30 => ?_) (fun c30 => ?_)
    · rw [if_pos c30] at h
      refine lv_iconst (v := (-1)) C.1 C.2.1 dX12_say_207 (by decide) ?_
      cases h
      exact rt_i C hP hS dX12_say_208
    · rw [if_neg c30] at h
      refine lv_aload_n C.1 C.2.1 dX12_say_33 rfl (lv_at hl 0 rfl) ?_
      refine lv_iload_n C.1 C.2.1 dX12_say_34 rfl (lv_at hl 2 rfl) ?_
      obtain ⟨⟨r7, u8⟩, hc9, h⟩ := bd_some h
      try dsimp only at h
      refine cg_v (As := [.int z2]) (rest := []) (AM_ge hJ) C hK hP hS (metX12_layAlike_0 l D cy ad st hJ _ z2 hc9) (cwV 1 C.2.2.2.2.2.1 gX12_say_X12_layAlike rfl rfl rfl (by decide +kernel) ⟨(Nat.le_of_ble_eq_true rfl), (Nat.le_of_ble_eq_true rfl)⟩) 0 12 rfl rfl rfl hl.1 rfl (Nat.le_of_ble_eq_true rfl) dX12_say_35 ⟨Nat.zero_le _, Nat.zero_le _⟩ (fun H locs hP hS => ?_)
      refine lv_aload_n C.1 C.2.1 dX12_say_38 rfl (lv_at hl 0 rfl) ?_
      refine gM_0_knownMany C hX12_say_0_X12 hK hP mX12_say_0_4 dX12_say_39 ?_
      refine lv_if_le (tgt := 60) C.1 C.2.1 dX12_say_42 (by decide) (fun c42 => ?_) (fun c42 => ?_)
      · rw [if_pos c42] at h
        exact wGX12_say_0_60 C hK hJ ih _ _ _ _ _ _ h hP hS hl
      · rw [if_neg c42] at h
        refine lv_aload_n C.1 C.2.1 dX12_say_45 rfl (lv_at hl 0 rfl) ?_
        refine gM_0_alikeFrom C hX12_say_0_X12 hK hP mX12_say_0_9 dX12_say_46 ?_
        refine lv_aload_n C.1 C.2.1 dX12_say_49 rfl (lv_at hl 0 rfl) ?_
        refine gM_0_alikeTo C hX12_say_0_X12 hK hP mX12_say_0_10 dX12_say_50 ?_
        refine lv_icmp_gt (tgt := 60) C.1 C.2.1 dX12_say_53 (by decide) (fun c53 => ?_) (fun c53 => ?_)
        · rw [if_pos c53] at h
          exact wGX12_say_0_60 C hK hJ ih _ _ _ _ _ _ h hP hS hl
        · rw [if_neg c53] at h
          refine lv_iconst (v := 1) C.1 C.2.1 dX12_say_56 (by decide) ?_
          refine lv_goto (tgt := 61) C.1 C.2.1 dX12_say_57 (by decide) ?_
          exact wGX12_say_0_61 C hK hJ ih _ _ _ _ _ _ _ h hP hS hl
set_option maxHeartbeats 4000000 in
set_option maxRecDepth 100000 in
theorem wX12_say_0 {p : Program} {l : Launch} {e : Env} {s : State} {m : MethodId} {args : Array Value} {below : List Frame} {meth : Method} {c : Code} {D : va_G} {cy : Nat → ClassId} {ad st : Nat → Nat} (C : Cx RX12 cX12_say 6 (some .int) wsX12_say p s m args meth c) (hK : Ky D [(cy 0, .int), (cy 1, .long), (cy 2, .boolean), (cy 3, .byte), (cy 4, .object "HissHorn$Text")] st s) (hJ : JM ad st) (x1 : Int32) {u : SX} {r : Int32} {u' : SX} {H : Heap} {locs : List Loc} {ls : Array Slot} (h : fX12_say_0 x1 u = some (r, u')) (hP : va_P D vwCl (VM cy ad st u) H) (hS : va_S (Ax (AM ad) s.heap.size) s.heap H locs) (hl : lv_has ls 6 [(0, .ref (ad 0)), (1, .int x1)]) : W p l e rmX12_say_0 s m args below meth c H locs 0 0 (MQ below (Qi D (VM cy ad st) (AM ad) s.heap.size r u') args s 0 0 (Ax (AM ad) s.heap.size)) (F0 m 0 ls []) := by
  unfold fX12_say_0 at h
  refine lv_aload_n C.1 C.2.1 dX12_say_0 rfl (lv_at hl 0 rfl) ?_
  refine lv_iconst (v := 0) C.1 C.2.1 dX12_say_1 (by decide) ?_
  refine pM_0_thrown C hX12_say_0_X12 hK hP hJ hS mX12_say_0_1 dX12_say_2 (fun H locs hP hS => ?_)
  obtain ⟨u1, hu2, h⟩ := lt_some h
  rw [← hu2] at hP
  refine lv_iload_n C.1 C.2.1 dX12_say_5 rfl (lv_at hl 1 rfl) ?_
  refine lv_iconst (v := 0) C.1 C.2.1 dX12_say_6 (by decide) ?_
  refine lv_aload_n C.1 C.2.1 dX12_say_7 rfl (lv_at hl 0 rfl) ?_
  refine gM_0_textMany C hX12_say_0_X12 hK hP mX12_say_0_2 dX12_say_8 ?_
  refine lv_iconst (v := 2) C.1 C.2.1 dX12_say_11 (by decide) ?_
  obtain ⟨hg3, h⟩ := gd_some h
  refine lM_4 C hK hP hg3 dX12_say_12 ?_
  refine lv_iconst (v := 1) C.1 C.2.1 dX12_say_13 (by decide) ?_
  refine lv_isub C.1 C.2.1 dX12_say_14 ?_
  obtain ⟨r4, hc6, h⟩ := bd_some h
  refine cs_i (As := [.int x1, .int 0, .int ((u1.2.1 4 (2 : Int32).toNatClampNeg) - 1)]) (rest := []) (AM_ge hJ) C hK hP hS (metX12_isIn l D cy st _ x1 0 ((u1.2.1 4 (2 : Int32).toNatClampNeg) - 1) hc6) (va_cwS 3 C.2.2.2.2.2.1 gX12_say_X12_isIn rfl rfl rfl (by decide +kernel) ⟨(Nat.le_of_ble_eq_true rfl), (Nat.le_of_ble_eq_true rfl)⟩) rfl hl.1 rfl (Nat.le_of_ble_eq_true rfl) dX12_say_15 ⟨Nat.zero_le _, Nat.zero_le _⟩ (fun H locs hP hS => ?_)
  refine lv_if_ne (tgt := 23) C.1 C.2.1 dX12_say_18 (by decide) (fun c18 => ?_) (fun c18 => ?_)
  · rw [if_neg c18] at h
    refine lv_iconst (v := 0) C.1 C.2.1 dX12_say_23 (by decide) ?_
    refine lv_istore_n (lv' := [(2, .int 0), (0, .ref (ad 0)), (1, .int x1)]) C.1 C.2.1 dX12_say_24 rfl hl (by decide) rfl (fun ls hl => ?_)
    replace hl := lv_sub (l' := [(0, .ref (ad 0)), (1, .int x1), (2, .int 0)]) hl [1, 2, 0] rfl
    exact wLX12_say_0_25 C hK hJ  5000 _ _ _ _ _ _ h hP hS hl
  · rw [if_pos c18] at h
    refine lv_iconst (v := (-1)) C.1 C.2.1 dX12_say_21 (by decide) ?_
    cases h
    exact rt_i C hP hS dX12_say_22
theorem metX12_say_0 (l : Launch) (D : va_G) (cy : Nat → ClassId) (ad st : Nat → Nat) (hJ : JM ad st) (sz : Nat) (x1 : Int32) {u : SX} {r : Int32} {u' : SX} (h : fX12_say_0 x1 u = some (r, u')) : Met l yX12_say wsX12_say rmX12_say_0 (va_Pc [.ref (ad 0), .int x1] (Px D [(cy 0, .int), (cy 1, .long), (cy 2, .boolean), (cy 3, .byte), (cy 4, .object "HissHorn$Text")] st (VM cy ad st) sz u)) (Qi D (VM cy ad st) (AM ad) sz r u') 0 0 (Ax (AM ad) sz) := by
  refine Met.ofW (cc := cX12_say) (maxL := 6) (ret := (some .int)) (by decide) rfl ?_
  intro p e s m args below meth c s₁ B hml hv
  obtain ⟨rfl, hsz, hP, hK⟩ := hv
  subst hsz
  have C : Cx RX12 cX12_say 6 (some .int) wsX12_say p s m _ meth c := ⟨B.exec, B.bytes, hml, B.returns, findClass_of_methodNamed B.named, atoms_spec (ws := wsX12_say) B.pre, B.notSynchronized⟩
  have hl := lv_entry ([.ref (ad 0), .int x1]) (n := 6) (Nat.le_of_ble_eq_true rfl)
  rw [lg_entry_eq]
  exact wX12_say_0 C hK hJ x1 h hP va_S.rf hl

theorem zdX12_count_0 : (and (and (and (and (and (zk cX12_count 0 (.aload_n 0) 1) (zk cX12_count 1 (.iconst 0) 1)) (and (zk cX12_count 2 (.putfield 151) 3) (zk cX12_count 5 (.iload_n 1) 1))) (and (and (zk cX12_count 6 (.tableswitch 151 0 13 #[70, 75, 82, 89, 96, 101, 106, 111, 121, 126, 131, 136, 141, 146]) 70) (zk cX12_count 76 (.aload_n 0) 1)) (and (zk cX12_count 77 (.getfield 159) 3) (zk cX12_count 80 (.ireturn) 1)))) (and (and (and (zk cX12_count 81 (.aload_n 0) 1) (zk cX12_count 82 (.getfield 20) 3)) (and (zk cX12_count 85 (.iconst 0) 1) (zk cX12_count 86 (.iaload) 1))) (and (and (zk cX12_count 87 (.ireturn) 1) (zk cX12_count 88 (.aload_n 0) 1)) (and (zk cX12_count 89 (.getfield 20) 3) (zk cX12_count 92 (.iconst 1) 1))))) (and (and (and (and (zk cX12_count 93 (.iaload) 1) (zk cX12_count 94 (.ireturn) 1)) (and (zk cX12_count 95 (.aload_n 0) 1) (zk cX12_count 96 (.getfield 20) 3))) (and (and (zk cX12_count 99 (.iconst 2) 1) (zk cX12_count 100 (.iaload) 1)) (and (zk cX12_count 101 (.ireturn) 1) (zk cX12_count 102 (.aload_n 0) 1)))) (and (and (and (zk cX12_count 103 (.getfield 286) 3) (zk cX12_count 106 (.ireturn) 1)) (and (zk cX12_count 107 (.aload_n 0) 1) (zk cX12_count 108 (.getfield 335) 3))) (and (and (zk cX12_count 111 (.ireturn) 1) (zk cX12_count 112 (.aload_n 0) 1)) (and (zk cX12_count 113 (.getfield 401) 3) (zk cX12_count 116 (.ireturn) 1)))))) = true := by decide +kernel
theorem dX12_count_0 : decode cX12_count 0 = .ok (.aload_n 0, 1) := zk_of (zk_l (zk_l (zk_l (zk_l (zk_l zdX12_count_0)))))
theorem dX12_count_1 : decode cX12_count 1 = .ok (.iconst 0, 1) := zk_of (zk_r (zk_l (zk_l (zk_l (zk_l zdX12_count_0)))))
theorem dX12_count_2 : decode cX12_count 2 = .ok (.putfield 151, 3) := zk_of (zk_l (zk_r (zk_l (zk_l (zk_l zdX12_count_0)))))
theorem dX12_count_5 : decode cX12_count 5 = .ok (.iload_n 1, 1) := zk_of (zk_r (zk_r (zk_l (zk_l (zk_l zdX12_count_0)))))
theorem dX12_count_6 : decode cX12_count 6 = .ok (.tableswitch 151 0 13 #[70, 75, 82, 89, 96, 101, 106, 111, 121, 126, 131, 136, 141, 146], 70) := zk_of (zk_l (zk_l (zk_r (zk_l (zk_l zdX12_count_0)))))
theorem dX12_count_76 : decode cX12_count 76 = .ok (.aload_n 0, 1) := zk_of (zk_r (zk_l (zk_r (zk_l (zk_l zdX12_count_0)))))
theorem dX12_count_77 : decode cX12_count 77 = .ok (.getfield 159, 3) := zk_of (zk_l (zk_r (zk_r (zk_l (zk_l zdX12_count_0)))))
theorem dX12_count_80 : decode cX12_count 80 = .ok (.ireturn, 1) := zk_of (zk_r (zk_r (zk_r (zk_l (zk_l zdX12_count_0)))))
theorem dX12_count_81 : decode cX12_count 81 = .ok (.aload_n 0, 1) := zk_of (zk_l (zk_l (zk_l (zk_r (zk_l zdX12_count_0)))))
theorem dX12_count_82 : decode cX12_count 82 = .ok (.getfield 20, 3) := zk_of (zk_r (zk_l (zk_l (zk_r (zk_l zdX12_count_0)))))
theorem dX12_count_85 : decode cX12_count 85 = .ok (.iconst 0, 1) := zk_of (zk_l (zk_r (zk_l (zk_r (zk_l zdX12_count_0)))))
theorem dX12_count_86 : decode cX12_count 86 = .ok (.iaload, 1) := zk_of (zk_r (zk_r (zk_l (zk_r (zk_l zdX12_count_0)))))
theorem dX12_count_87 : decode cX12_count 87 = .ok (.ireturn, 1) := zk_of (zk_l (zk_l (zk_r (zk_r (zk_l zdX12_count_0)))))
theorem dX12_count_88 : decode cX12_count 88 = .ok (.aload_n 0, 1) := zk_of (zk_r (zk_l (zk_r (zk_r (zk_l zdX12_count_0)))))
theorem dX12_count_89 : decode cX12_count 89 = .ok (.getfield 20, 3) := zk_of (zk_l (zk_r (zk_r (zk_r (zk_l zdX12_count_0)))))
theorem dX12_count_92 : decode cX12_count 92 = .ok (.iconst 1, 1) := zk_of (zk_r (zk_r (zk_r (zk_r (zk_l zdX12_count_0)))))
theorem dX12_count_93 : decode cX12_count 93 = .ok (.iaload, 1) := zk_of (zk_l (zk_l (zk_l (zk_l (zk_r zdX12_count_0)))))
theorem dX12_count_94 : decode cX12_count 94 = .ok (.ireturn, 1) := zk_of (zk_r (zk_l (zk_l (zk_l (zk_r zdX12_count_0)))))
theorem dX12_count_95 : decode cX12_count 95 = .ok (.aload_n 0, 1) := zk_of (zk_l (zk_r (zk_l (zk_l (zk_r zdX12_count_0)))))
theorem dX12_count_96 : decode cX12_count 96 = .ok (.getfield 20, 3) := zk_of (zk_r (zk_r (zk_l (zk_l (zk_r zdX12_count_0)))))
theorem dX12_count_99 : decode cX12_count 99 = .ok (.iconst 2, 1) := zk_of (zk_l (zk_l (zk_r (zk_l (zk_r zdX12_count_0)))))
theorem dX12_count_100 : decode cX12_count 100 = .ok (.iaload, 1) := zk_of (zk_r (zk_l (zk_r (zk_l (zk_r zdX12_count_0)))))
theorem dX12_count_101 : decode cX12_count 101 = .ok (.ireturn, 1) := zk_of (zk_l (zk_r (zk_r (zk_l (zk_r zdX12_count_0)))))
theorem dX12_count_102 : decode cX12_count 102 = .ok (.aload_n 0, 1) := zk_of (zk_r (zk_r (zk_r (zk_l (zk_r zdX12_count_0)))))
theorem dX12_count_103 : decode cX12_count 103 = .ok (.getfield 286, 3) := zk_of (zk_l (zk_l (zk_l (zk_r (zk_r zdX12_count_0)))))
theorem dX12_count_106 : decode cX12_count 106 = .ok (.ireturn, 1) := zk_of (zk_r (zk_l (zk_l (zk_r (zk_r zdX12_count_0)))))
theorem dX12_count_107 : decode cX12_count 107 = .ok (.aload_n 0, 1) := zk_of (zk_l (zk_r (zk_l (zk_r (zk_r zdX12_count_0)))))
theorem dX12_count_108 : decode cX12_count 108 = .ok (.getfield 335, 3) := zk_of (zk_r (zk_r (zk_l (zk_r (zk_r zdX12_count_0)))))
theorem dX12_count_111 : decode cX12_count 111 = .ok (.ireturn, 1) := zk_of (zk_l (zk_l (zk_r (zk_r (zk_r zdX12_count_0)))))
theorem dX12_count_112 : decode cX12_count 112 = .ok (.aload_n 0, 1) := zk_of (zk_r (zk_l (zk_r (zk_r (zk_r zdX12_count_0)))))
theorem dX12_count_113 : decode cX12_count 113 = .ok (.getfield 401, 3) := zk_of (zk_l (zk_r (zk_r (zk_r (zk_r zdX12_count_0)))))
theorem dX12_count_116 : decode cX12_count 116 = .ok (.ireturn, 1) := zk_of (zk_r (zk_r (zk_r (zk_r (zk_r zdX12_count_0)))))
theorem zdX12_count_117 : (and (and (and (and (and (zk cX12_count 117 (.aload_n 0) 1) (zk cX12_count 118 (.getfield 301) 3)) (and (zk cX12_count 121 (.aload_n 0) 1) (zk cX12_count 122 (.getfield 411) 3))) (and (and (zk cX12_count 125 (.isub) 1) (zk cX12_count 126 (.ireturn) 1)) (zk cX12_count 127 (.aload_n 0) 1))) (and (and (and (zk cX12_count 128 (.getfield 411) 3) (zk cX12_count 131 (.ireturn) 1)) (zk cX12_count 132 (.aload_n 0) 1)) (and (and (zk cX12_count 133 (.getfield 439) 3) (zk cX12_count 136 (.ireturn) 1)) (zk cX12_count 137 (.aload_n 0) 1)))) (and (and (and (and (zk cX12_count 138 (.getfield 448) 3) (zk cX12_count 141 (.ireturn) 1)) (and (zk cX12_count 142 (.aload_n 0) 1) (zk cX12_count 143 (.getfield 445) 3))) (and (and (zk cX12_count 146 (.ireturn) 1) (zk cX12_count 147 (.aload_n 0) 1)) (zk cX12_count 148 (.getfield 451) 3))) (and (and (and (zk cX12_count 151 (.ireturn) 1) (zk cX12_count 152 (.aload_n 0) 1)) (zk cX12_count 153 (.getfield 162) 3)) (and (and (zk cX12_count 156 (.ireturn) 1) (zk cX12_count 157 (.iconst (-1)) 1)) (zk cX12_count 158 (.ireturn) 1))))) = true := by decide +kernel
theorem dX12_count_117 : decode cX12_count 117 = .ok (.aload_n 0, 1) := zk_of (zk_l (zk_l (zk_l (zk_l (zk_l zdX12_count_117)))))
theorem dX12_count_118 : decode cX12_count 118 = .ok (.getfield 301, 3) := zk_of (zk_r (zk_l (zk_l (zk_l (zk_l zdX12_count_117)))))
theorem dX12_count_121 : decode cX12_count 121 = .ok (.aload_n 0, 1) := zk_of (zk_l (zk_r (zk_l (zk_l (zk_l zdX12_count_117)))))
theorem dX12_count_122 : decode cX12_count 122 = .ok (.getfield 411, 3) := zk_of (zk_r (zk_r (zk_l (zk_l (zk_l zdX12_count_117)))))
theorem dX12_count_125 : decode cX12_count 125 = .ok (.isub, 1) := zk_of (zk_l (zk_l (zk_r (zk_l (zk_l zdX12_count_117)))))
theorem dX12_count_126 : decode cX12_count 126 = .ok (.ireturn, 1) := zk_of (zk_r (zk_l (zk_r (zk_l (zk_l zdX12_count_117)))))
theorem dX12_count_127 : decode cX12_count 127 = .ok (.aload_n 0, 1) := zk_of (zk_r (zk_r (zk_l (zk_l zdX12_count_117))))
theorem dX12_count_128 : decode cX12_count 128 = .ok (.getfield 411, 3) := zk_of (zk_l (zk_l (zk_l (zk_r (zk_l zdX12_count_117)))))
theorem dX12_count_131 : decode cX12_count 131 = .ok (.ireturn, 1) := zk_of (zk_r (zk_l (zk_l (zk_r (zk_l zdX12_count_117)))))
theorem dX12_count_132 : decode cX12_count 132 = .ok (.aload_n 0, 1) := zk_of (zk_r (zk_l (zk_r (zk_l zdX12_count_117))))
theorem dX12_count_133 : decode cX12_count 133 = .ok (.getfield 439, 3) := zk_of (zk_l (zk_l (zk_r (zk_r (zk_l zdX12_count_117)))))
theorem dX12_count_136 : decode cX12_count 136 = .ok (.ireturn, 1) := zk_of (zk_r (zk_l (zk_r (zk_r (zk_l zdX12_count_117)))))
theorem dX12_count_137 : decode cX12_count 137 = .ok (.aload_n 0, 1) := zk_of (zk_r (zk_r (zk_r (zk_l zdX12_count_117))))
theorem dX12_count_138 : decode cX12_count 138 = .ok (.getfield 448, 3) := zk_of (zk_l (zk_l (zk_l (zk_l (zk_r zdX12_count_117)))))
theorem dX12_count_141 : decode cX12_count 141 = .ok (.ireturn, 1) := zk_of (zk_r (zk_l (zk_l (zk_l (zk_r zdX12_count_117)))))
theorem dX12_count_142 : decode cX12_count 142 = .ok (.aload_n 0, 1) := zk_of (zk_l (zk_r (zk_l (zk_l (zk_r zdX12_count_117)))))
theorem dX12_count_143 : decode cX12_count 143 = .ok (.getfield 445, 3) := zk_of (zk_r (zk_r (zk_l (zk_l (zk_r zdX12_count_117)))))
theorem dX12_count_146 : decode cX12_count 146 = .ok (.ireturn, 1) := zk_of (zk_l (zk_l (zk_r (zk_l (zk_r zdX12_count_117)))))
theorem dX12_count_147 : decode cX12_count 147 = .ok (.aload_n 0, 1) := zk_of (zk_r (zk_l (zk_r (zk_l (zk_r zdX12_count_117)))))
theorem dX12_count_148 : decode cX12_count 148 = .ok (.getfield 451, 3) := zk_of (zk_r (zk_r (zk_l (zk_r zdX12_count_117))))
theorem dX12_count_151 : decode cX12_count 151 = .ok (.ireturn, 1) := zk_of (zk_l (zk_l (zk_l (zk_r (zk_r zdX12_count_117)))))
theorem dX12_count_152 : decode cX12_count 152 = .ok (.aload_n 0, 1) := zk_of (zk_r (zk_l (zk_l (zk_r (zk_r zdX12_count_117)))))
theorem dX12_count_153 : decode cX12_count 153 = .ok (.getfield 162, 3) := zk_of (zk_r (zk_l (zk_r (zk_r zdX12_count_117))))
theorem dX12_count_156 : decode cX12_count 156 = .ok (.ireturn, 1) := zk_of (zk_l (zk_l (zk_r (zk_r (zk_r zdX12_count_117)))))
theorem dX12_count_157 : decode cX12_count 157 = .ok (.iconst (-1), 1) := zk_of (zk_r (zk_l (zk_r (zk_r (zk_r zdX12_count_117)))))
theorem dX12_count_158 : decode cX12_count 158 = .ok (.ireturn, 1) := zk_of (zk_r (zk_r (zk_r (zk_r zdX12_count_117))))
/-- HissHornModel.count(I)I of cell 0 -/
def rmX12_count_0 : Room := { frames := 0, cells := 0, slots := 0, locals := 0 }
theorem hX12_count_0_X12 : ∀ w ∈ u_ws RX12 TX12 69, w ∈ wsX12_count := fun w h => (List.mem_cons_of_mem _ (List.mem_append_right _ h))
theorem mX12_count_0_1 : Cond.fieldLink RX12 151 "HissHornModel" "thrown" "I" ∈ wsX12_count := (List.mem_cons_of_mem _ (List.mem_append_left _ (List.mem_of_getElem? (i := 0) rfl)))
theorem mX12_count_0_2 : Cond.fieldLink RX12 159 "HissHornModel" "now" "I" ∈ wsX12_count := (List.mem_cons_of_mem _ (List.mem_append_left _ (List.mem_of_getElem? (i := 1) rfl)))
theorem mX12_count_0_3 : Cond.fieldLink RX12 20 "HissHornModel" "textMany" "[I" ∈ wsX12_count := (List.mem_cons_of_mem _ (List.mem_append_left _ (List.mem_of_getElem? (i := 2) rfl)))
theorem mX12_count_0_4 : Cond.fieldLink RX12 286 "HissHornModel" "parts" "I" ∈ wsX12_count := (List.mem_cons_of_mem _ (List.mem_append_left _ (List.mem_of_getElem? (i := 3) rfl)))
theorem mX12_count_0_5 : Cond.fieldLink RX12 335 "HissHornModel" "readings" "I" ∈ wsX12_count := (List.mem_cons_of_mem _ (List.mem_append_left _ (List.mem_of_getElem? (i := 4) rfl)))
theorem mX12_count_0_6 : Cond.fieldLink RX12 401 "HissHornModel" "looks" "I" ∈ wsX12_count := (List.mem_cons_of_mem _ (List.mem_append_left _ (List.mem_of_getElem? (i := 5) rfl)))
theorem mX12_count_0_7 : Cond.fieldLink RX12 301 "HissHornModel" "events" "I" ∈ wsX12_count := (List.mem_cons_of_mem _ (List.mem_append_left _ (List.mem_of_getElem? (i := 6) rfl)))
theorem mX12_count_0_8 : Cond.fieldLink RX12 411 "HissHornModel" "cleans" "I" ∈ wsX12_count := (List.mem_cons_of_mem _ (List.mem_append_left _ (List.mem_of_getElem? (i := 7) rfl)))
theorem mX12_count_0_9 : Cond.fieldLink RX12 439 "HissHornModel" "houses" "I" ∈ wsX12_count := (List.mem_cons_of_mem _ (List.mem_append_left _ (List.mem_of_getElem? (i := 8) rfl)))
theorem mX12_count_0_10 : Cond.fieldLink RX12 448 "HissHornModel" "prints" "I" ∈ wsX12_count := (List.mem_cons_of_mem _ (List.mem_append_left _ (List.mem_of_getElem? (i := 9) rfl)))
theorem mX12_count_0_11 : Cond.fieldLink RX12 445 "HissHornModel" "papers" "I" ∈ wsX12_count := (List.mem_cons_of_mem _ (List.mem_append_left _ (List.mem_of_getElem? (i := 10) rfl)))
theorem mX12_count_0_12 : Cond.fieldLink RX12 451 "HissHornModel" "letterMany" "I" ∈ wsX12_count := (List.mem_cons_of_mem _ (List.mem_append_left _ (List.mem_of_getElem? (i := 11) rfl)))
theorem mX12_count_0_13 : Cond.fieldLink RX12 162 "HissHornModel" "length" "I" ∈ wsX12_count := (List.mem_cons_of_mem _ (List.mem_append_left _ (List.mem_of_getElem? (i := 12) rfl)))
def fX12_count_0 (x1 : Int32) (u : SX) : Option (Int32 × SX) := (lt (sI u 0 0) fun u1 => (if x1 = 0 then (some (u1.1 1, u1)) else (if x1 = 1 then (gd (inb 0 3) (some (u1.2.1 4 (0 : Int32).toNatClampNeg, u1))) else (if x1 = 2 then (gd (inb 1 3) (some (u1.2.1 4 (1 : Int32).toNatClampNeg, u1))) else (if x1 = 3 then (gd (inb 2 3) (some (u1.2.1 4 (2 : Int32).toNatClampNeg, u1))) else (if x1 = 4 then (some (u1.1 12, u1)) else (if x1 = 5 then (some (u1.1 15, u1)) else (if x1 = 6 then (some (u1.1 21, u1)) else (if x1 = 7 then (some ((u1.1 13) - (u1.1 14), u1)) else (if x1 = 8 then (some (u1.1 14, u1)) else (if x1 = 9 then (some (u1.1 22, u1)) else (if x1 = 10 then (some (u1.1 23, u1)) else (if x1 = 11 then (some (u1.1 24, u1)) else (if x1 = 12 then (some (u1.1 25, u1)) else (if x1 = 13 then (some (u1.1 3, u1)) else (some ((-1), u1)))))))))))))))))
set_option maxHeartbeats 4000000 in
set_option maxRecDepth 100000 in
theorem wX12_count_0 {p : Program} {l : Launch} {e : Env} {s : State} {m : MethodId} {args : Array Value} {below : List Frame} {meth : Method} {c : Code} {D : va_G} {cy : Nat → ClassId} {ad st : Nat → Nat} (C : Cx RX12 cX12_count 2 (some .int) wsX12_count p s m args meth c) (hK : Ky D [(cy 0, .int), (cy 1, .long), (cy 2, .boolean), (cy 3, .byte), (cy 4, .object "HissHorn$Text")] st s) (hJ : JM ad st) (x1 : Int32) {u : SX} {r : Int32} {u' : SX} {H : Heap} {locs : List Loc} {ls : Array Slot} (h : fX12_count_0 x1 u = some (r, u')) (hP : va_P D vwCl (VM cy ad st u) H) (hS : va_S (Ax (AM ad) s.heap.size) s.heap H locs) (hl : lv_has ls 2 [(0, .ref (ad 0)), (1, .int x1)]) : W p l e rmX12_count_0 s m args below meth c H locs 0 0 (MQ below (Qi D (VM cy ad st) (AM ad) s.heap.size r u') args s 0 0 (Ax (AM ad) s.heap.size)) (F0 m 0 ls []) := by
  unfold fX12_count_0 at h
  refine lv_aload_n C.1 C.2.1 dX12_count_0 rfl (lv_at hl 0 rfl) ?_
  refine lv_iconst (v := 0) C.1 C.2.1 dX12_count_1 (by decide) ?_
  refine pM_0_thrown C hX12_count_0_X12 hK hP hJ hS mX12_count_0_1 dX12_count_2 (fun H locs hP hS => ?_)
  obtain ⟨u1, hu2, h⟩ := lt_some h
  rw [← hu2] at hP
  refine lv_iload_n C.1 C.2.1 dX12_count_5 rfl (lv_at hl 1 rfl) ?_
  by_cases c6_0 : x1 = 0
  · rw [if_pos c6_0] at h
    rw [c6_0]
    refine lv_tableIn (off := 70) (tgt := 76) C.1 C.2.1 dX12_count_6 (by decide) (by decide) (by decide) (by decide) ?_
    refine lv_aload_n C.1 C.2.1 dX12_count_76 rfl (lv_at hl 0 rfl) ?_
    refine gM_0_now C hX12_count_0_X12 hK hP mX12_count_0_2 dX12_count_77 ?_
    cases h
    exact rt_i C hP hS dX12_count_80
  · rw [if_neg c6_0] at h
    by_cases c6_1 : x1 = 1
    · rw [if_pos c6_1] at h
      rw [c6_1]
      refine lv_tableIn (off := 75) (tgt := 81) C.1 C.2.1 dX12_count_6 (by decide) (by decide) (by decide) (by decide) ?_
      refine lv_aload_n C.1 C.2.1 dX12_count_81 rfl (lv_at hl 0 rfl) ?_
      refine gM_0_textMany C hX12_count_0_X12 hK hP mX12_count_0_3 dX12_count_82 ?_
      refine lv_iconst (v := 0) C.1 C.2.1 dX12_count_85 (by decide) ?_
      obtain ⟨hg3, h⟩ := gd_some h
      refine lM_4 C hK hP hg3 dX12_count_86 ?_
      cases h
      exact rt_i C hP hS dX12_count_87
    · rw [if_neg c6_1] at h
      by_cases c6_2 : x1 = 2
      · rw [if_pos c6_2] at h
        rw [c6_2]
        refine lv_tableIn (off := 82) (tgt := 88) C.1 C.2.1 dX12_count_6 (by decide) (by decide) (by decide) (by decide) ?_
        refine lv_aload_n C.1 C.2.1 dX12_count_88 rfl (lv_at hl 0 rfl) ?_
        refine gM_0_textMany C hX12_count_0_X12 hK hP mX12_count_0_3 dX12_count_89 ?_
        refine lv_iconst (v := 1) C.1 C.2.1 dX12_count_92 (by decide) ?_
        obtain ⟨hg4, h⟩ := gd_some h
        refine lM_4 C hK hP hg4 dX12_count_93 ?_
        cases h
        exact rt_i C hP hS dX12_count_94
      · rw [if_neg c6_2] at h
        by_cases c6_3 : x1 = 3
        · rw [if_pos c6_3] at h
          rw [c6_3]
          refine lv_tableIn (off := 89) (tgt := 95) C.1 C.2.1 dX12_count_6 (by decide) (by decide) (by decide) (by decide) ?_
          refine lv_aload_n C.1 C.2.1 dX12_count_95 rfl (lv_at hl 0 rfl) ?_
          refine gM_0_textMany C hX12_count_0_X12 hK hP mX12_count_0_3 dX12_count_96 ?_
          refine lv_iconst (v := 2) C.1 C.2.1 dX12_count_99 (by decide) ?_
          obtain ⟨hg5, h⟩ := gd_some h
          refine lM_4 C hK hP hg5 dX12_count_100 ?_
          cases h
          exact rt_i C hP hS dX12_count_101
        · rw [if_neg c6_3] at h
          by_cases c6_4 : x1 = 4
          · rw [if_pos c6_4] at h
            rw [c6_4]
            refine lv_tableIn (off := 96) (tgt := 102) C.1 C.2.1 dX12_count_6 (by decide) (by decide) (by decide) (by decide) ?_
            refine lv_aload_n C.1 C.2.1 dX12_count_102 rfl (lv_at hl 0 rfl) ?_
            refine gM_0_parts C hX12_count_0_X12 hK hP mX12_count_0_4 dX12_count_103 ?_
            cases h
            exact rt_i C hP hS dX12_count_106
          · rw [if_neg c6_4] at h
            by_cases c6_5 : x1 = 5
            · rw [if_pos c6_5] at h
              rw [c6_5]
              refine lv_tableIn (off := 101) (tgt := 107) C.1 C.2.1 dX12_count_6 (by decide) (by decide) (by decide) (by decide) ?_
              refine lv_aload_n C.1 C.2.1 dX12_count_107 rfl (lv_at hl 0 rfl) ?_
              refine gM_0_readings C hX12_count_0_X12 hK hP mX12_count_0_5 dX12_count_108 ?_
              cases h
              exact rt_i C hP hS dX12_count_111
            · rw [if_neg c6_5] at h
              by_cases c6_6 : x1 = 6
              · rw [if_pos c6_6] at h
                rw [c6_6]
                refine lv_tableIn (off := 106) (tgt := 112) C.1 C.2.1 dX12_count_6 (by decide) (by decide) (by decide) (by decide) ?_
                refine lv_aload_n C.1 C.2.1 dX12_count_112 rfl (lv_at hl 0 rfl) ?_
                refine gM_0_looks C hX12_count_0_X12 hK hP mX12_count_0_6 dX12_count_113 ?_
                cases h
                exact rt_i C hP hS dX12_count_116
              · rw [if_neg c6_6] at h
                by_cases c6_7 : x1 = 7
                · rw [if_pos c6_7] at h
                  rw [c6_7]
                  refine lv_tableIn (off := 111) (tgt := 117) C.1 C.2.1 dX12_count_6 (by decide) (by decide) (by decide) (by decide) ?_
                  refine lv_aload_n C.1 C.2.1 dX12_count_117 rfl (lv_at hl 0 rfl) ?_
                  refine gM_0_events C hX12_count_0_X12 hK hP mX12_count_0_7 dX12_count_118 ?_
                  refine lv_aload_n C.1 C.2.1 dX12_count_121 rfl (lv_at hl 0 rfl) ?_
                  refine gM_0_cleans C hX12_count_0_X12 hK hP mX12_count_0_8 dX12_count_122 ?_
                  refine lv_isub C.1 C.2.1 dX12_count_125 ?_
                  cases h
                  exact rt_i C hP hS dX12_count_126
                · rw [if_neg c6_7] at h
                  by_cases c6_8 : x1 = 8
                  · rw [if_pos c6_8] at h
                    rw [c6_8]
                    refine lv_tableIn (off := 121) (tgt := 127) C.1 C.2.1 dX12_count_6 (by decide) (by decide) (by decide) (by decide) ?_
                    refine lv_aload_n C.1 C.2.1 dX12_count_127 rfl (lv_at hl 0 rfl) ?_
                    refine gM_0_cleans C hX12_count_0_X12 hK hP mX12_count_0_8 dX12_count_128 ?_
                    cases h
                    exact rt_i C hP hS dX12_count_131
                  · rw [if_neg c6_8] at h
                    by_cases c6_9 : x1 = 9
                    · rw [if_pos c6_9] at h
                      rw [c6_9]
                      refine lv_tableIn (off := 126) (tgt := 132) C.1 C.2.1 dX12_count_6 (by decide) (by decide) (by decide) (by decide) ?_
                      refine lv_aload_n C.1 C.2.1 dX12_count_132 rfl (lv_at hl 0 rfl) ?_
                      refine gM_0_houses C hX12_count_0_X12 hK hP mX12_count_0_9 dX12_count_133 ?_
                      cases h
                      exact rt_i C hP hS dX12_count_136
                    · rw [if_neg c6_9] at h
                      by_cases c6_10 : x1 = 10
                      · rw [if_pos c6_10] at h
                        rw [c6_10]
                        refine lv_tableIn (off := 131) (tgt := 137) C.1 C.2.1 dX12_count_6 (by decide) (by decide) (by decide) (by decide) ?_
                        refine lv_aload_n C.1 C.2.1 dX12_count_137 rfl (lv_at hl 0 rfl) ?_
                        refine gM_0_prints C hX12_count_0_X12 hK hP mX12_count_0_10 dX12_count_138 ?_
                        cases h
                        exact rt_i C hP hS dX12_count_141
                      · rw [if_neg c6_10] at h
                        by_cases c6_11 : x1 = 11
                        · rw [if_pos c6_11] at h
                          rw [c6_11]
                          refine lv_tableIn (off := 136) (tgt := 142) C.1 C.2.1 dX12_count_6 (by decide) (by decide) (by decide) (by decide) ?_
                          refine lv_aload_n C.1 C.2.1 dX12_count_142 rfl (lv_at hl 0 rfl) ?_
                          refine gM_0_papers C hX12_count_0_X12 hK hP mX12_count_0_11 dX12_count_143 ?_
                          cases h
                          exact rt_i C hP hS dX12_count_146
                        · rw [if_neg c6_11] at h
                          by_cases c6_12 : x1 = 12
                          · rw [if_pos c6_12] at h
                            rw [c6_12]
                            refine lv_tableIn (off := 141) (tgt := 147) C.1 C.2.1 dX12_count_6 (by decide) (by decide) (by decide) (by decide) ?_
                            refine lv_aload_n C.1 C.2.1 dX12_count_147 rfl (lv_at hl 0 rfl) ?_
                            refine gM_0_letterMany C hX12_count_0_X12 hK hP mX12_count_0_12 dX12_count_148 ?_
                            cases h
                            exact rt_i C hP hS dX12_count_151
                          · rw [if_neg c6_12] at h
                            by_cases c6_13 : x1 = 13
                            · rw [if_pos c6_13] at h
                              rw [c6_13]
                              refine lv_tableIn (off := 146) (tgt := 152) C.1 C.2.1 dX12_count_6 (by decide) (by decide) (by decide) (by decide) ?_
                              refine lv_aload_n C.1 C.2.1 dX12_count_152 rfl (lv_at hl 0 rfl) ?_
                              refine gM_0_length C hX12_count_0_X12 hK hP mX12_count_0_13 dX12_count_153 ?_
                              cases h
                              exact rt_i C hP hS dX12_count_156
                            · rw [if_neg c6_13] at h
                              have e6_0 := lv_neT c6_0 (show (0 : Int32).toInt = 0 from by decide)
                              have e6_1 := lv_neT c6_1 (show (1 : Int32).toInt = 1 from by decide)
                              have e6_2 := lv_neT c6_2 (show (2 : Int32).toInt = 2 from by decide)
                              have e6_3 := lv_neT c6_3 (show (3 : Int32).toInt = 3 from by decide)
                              have e6_4 := lv_neT c6_4 (show (4 : Int32).toInt = 4 from by decide)
                              have e6_5 := lv_neT c6_5 (show (5 : Int32).toInt = 5 from by decide)
                              have e6_6 := lv_neT c6_6 (show (6 : Int32).toInt = 6 from by decide)
                              have e6_7 := lv_neT c6_7 (show (7 : Int32).toInt = 7 from by decide)
                              have e6_8 := lv_neT c6_8 (show (8 : Int32).toInt = 8 from by decide)
                              have e6_9 := lv_neT c6_9 (show (9 : Int32).toInt = 9 from by decide)
                              have e6_10 := lv_neT c6_10 (show (10 : Int32).toInt = 10 from by decide)
                              have e6_11 := lv_neT c6_11 (show (11 : Int32).toInt = 11 from by decide)
                              have e6_12 := lv_neT c6_12 (show (12 : Int32).toInt = 12 from by decide)
                              have e6_13 := lv_neT c6_13 (show (13 : Int32).toInt = 13 from by decide)
                              refine lv_tableOut (tgt := 157) C.1 C.2.1 dX12_count_6 (by omega) (by decide) ?_
                              refine lv_iconst (v := (-1)) C.1 C.2.1 dX12_count_157 (by decide) ?_
                              cases h
                              exact rt_i C hP hS dX12_count_158
theorem metX12_count_0 (l : Launch) (D : va_G) (cy : Nat → ClassId) (ad st : Nat → Nat) (hJ : JM ad st) (sz : Nat) (x1 : Int32) {u : SX} {r : Int32} {u' : SX} (h : fX12_count_0 x1 u = some (r, u')) : Met l yX12_count wsX12_count rmX12_count_0 (va_Pc [.ref (ad 0), .int x1] (Px D [(cy 0, .int), (cy 1, .long), (cy 2, .boolean), (cy 3, .byte), (cy 4, .object "HissHorn$Text")] st (VM cy ad st) sz u)) (Qi D (VM cy ad st) (AM ad) sz r u') 0 0 (Ax (AM ad) sz) := by
  refine Met.ofW (cc := cX12_count) (maxL := 2) (ret := (some .int)) (by decide) rfl ?_
  intro p e s m args below meth c s₁ B hml hv
  obtain ⟨rfl, hsz, hP, hK⟩ := hv
  subst hsz
  have C : Cx RX12 cX12_count 2 (some .int) wsX12_count p s m _ meth c := ⟨B.exec, B.bytes, hml, B.returns, findClass_of_methodNamed B.named, atoms_spec (ws := wsX12_count) B.pre, B.notSynchronized⟩
  have hl := lv_entry ([.ref (ad 0), .int x1]) (n := 2) (Nat.le_of_ble_eq_true rfl)
  rw [lg_entry_eq]
  exact wX12_count_0 C hK hJ x1 h hP va_S.rf hl
