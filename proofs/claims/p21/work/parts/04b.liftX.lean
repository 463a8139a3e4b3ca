theorem zdX5_number_39 : (and (and (and (and (and (zk cX5_number 39 (.istore_n 3) 1) (zk cX5_number 40 (.iload_n 3) 1)) (and (zk cX5_number 41 (.bipush 48) 2) (zk cX5_number 43 (.if_icmp .lt 9) 3))) (and (and (zk cX5_number 52 (.iload_n 1) 1) (zk cX5_number 53 (.ireturn) 1)) (and (zk cX5_number 46 (.iload_n 3) 1) (zk cX5_number 47 (.bipush 57) 2)))) (and (and (and (zk cX5_number 49 (.if_icmp .le 5) 3) (zk cX5_number 54 (.iload_n 2) 1)) (and (zk cX5_number 55 (.iconst 4) 1) (zk cX5_number 56 (.if_icmp .ne 5) 3))) (and (and (zk cX5_number 61 (.iload_n 1) 1) (zk cX5_number 62 (.bipush 10) 2)) (and (zk cX5_number 64 (.imul) 1) (zk cX5_number 65 (.iload_n 3) 1))))) (and (and (and (and (zk cX5_number 66 (.iadd) 1) (zk cX5_number 67 (.bipush 48) 2)) (and (zk cX5_number 69 (.isub) 1) (zk cX5_number 70 (.istore_n 1) 1))) (and (and (zk cX5_number 71 (.aload_n 0) 1) (zk cX5_number 72 (.dup) 1)) (and (zk cX5_number 73 (.getfield 27) 3) (zk cX5_number 76 (.iconst 1) 1)))) (and (and (and (zk cX5_number 77 (.iadd) 1) (zk cX5_number 78 (.putfield 27) 3)) (and (zk cX5_number 81 (.iinc 2 1) 3) (zk cX5_number 84 (.goto (-80)) 3))) (and (and (zk cX5_number 59 (.iconst (-1)) 1) (zk cX5_number 60 (.ireturn) 1)) (and (zk cX5_number 4 (.iload_n 2) 1) (zk cX5_number 5 (.iconst 4) 1)))))) = true := by decide +kernel
theorem dX5_number_39 : decode cX5_number 39 = .ok (.istore_n 3, 1) := zk_of (zk_l (zk_l (zk_l (zk_l (zk_l zdX5_number_39)))))
theorem dX5_number_40 : decode cX5_number 40 = .ok (.iload_n 3, 1) := zk_of (zk_r (zk_l (zk_l (zk_l (zk_l zdX5_number_39)))))
theorem dX5_number_41 : decode cX5_number 41 = .ok (.bipush 48, 2) := zk_of (zk_l (zk_r (zk_l (zk_l (zk_l zdX5_number_39)))))
theorem dX5_number_43 : decode cX5_number 43 = .ok (.if_icmp .lt 9, 3) := zk_of (zk_r (zk_r (zk_l (zk_l (zk_l zdX5_number_39)))))
theorem dX5_number_52 : decode cX5_number 52 = .ok (.iload_n 1, 1) := zk_of (zk_l (zk_l (zk_r (zk_l (zk_l zdX5_number_39)))))
theorem dX5_number_53 : decode cX5_number 53 = .ok (.ireturn, 1) := zk_of (zk_r (zk_l (zk_r (zk_l (zk_l zdX5_number_39)))))
theorem dX5_number_46 : decode cX5_number 46 = .ok (.iload_n 3, 1) := zk_of (zk_l (zk_r (zk_r (zk_l (zk_l zdX5_number_39)))))
theorem dX5_number_47 : decode cX5_number 47 = .ok (.bipush 57, 2) := zk_of (zk_r (zk_r (zk_r (zk_l (zk_l zdX5_number_39)))))
theorem dX5_number_49 : decode cX5_number 49 = .ok (.if_icmp .le 5, 3) := zk_of (zk_l (zk_l (zk_l (zk_r (zk_l zdX5_number_39)))))
theorem dX5_number_54 : decode cX5_number 54 = .ok (.iload_n 2, 1) := zk_of (zk_r (zk_l (zk_l (zk_r (zk_l zdX5_number_39)))))
theorem dX5_number_55 : decode cX5_number 55 = .ok (.iconst 4, 1) := zk_of (zk_l (zk_r (zk_l (zk_r (zk_l zdX5_number_39)))))
theorem dX5_number_56 : decode cX5_number 56 = .ok (.if_icmp .ne 5, 3) := zk_of (zk_r (zk_r (zk_l (zk_r (zk_l zdX5_number_39)))))
theorem dX5_number_61 : decode cX5_number 61 = .ok (.iload_n 1, 1) := zk_of (zk_l (zk_l (zk_r (zk_r (zk_l zdX5_number_39)))))
theorem dX5_number_62 : decode cX5_number 62 = .ok (.bipush 10, 2) := zk_of (zk_r (zk_l (zk_r (zk_r (zk_l zdX5_number_39)))))
theorem dX5_number_64 : decode cX5_number 64 = .ok (.imul, 1) := zk_of (zk_l (zk_r (zk_r (zk_r (zk_l zdX5_number_39)))))
theorem dX5_number_65 : decode cX5_number 65 = .ok (.iload_n 3, 1) := zk_of (zk_r (zk_r (zk_r (zk_r (zk_l zdX5_number_39)))))
theorem dX5_number_66 : decode cX5_number 66 = .ok (.iadd, 1) := zk_of (zk_l (zk_l (zk_l (zk_l (zk_r zdX5_number_39)))))
theorem dX5_number_67 : decode cX5_number 67 = .ok (.bipush 48, 2) := zk_of (zk_r (zk_l (zk_l (zk_l (zk_r zdX5_number_39)))))
theorem dX5_number_69 : decode cX5_number 69 = .ok (.isub, 1) := zk_of (zk_l (zk_r (zk_l (zk_l (zk_r zdX5_number_39)))))
theorem dX5_number_70 : decode cX5_number 70 = .ok (.istore_n 1, 1) := zk_of (zk_r (zk_r (zk_l (zk_l (zk_r zdX5_number_39)))))
theorem dX5_number_71 : decode cX5_number 71 = .ok (.aload_n 0, 1) := zk_of (zk_l (zk_l (zk_r (zk_l (zk_r zdX5_number_39)))))
theorem dX5_number_72 : decode cX5_number 72 = .ok (.dup, 1) := zk_of (zk_r (zk_l (zk_r (zk_l (zk_r zdX5_number_39)))))
theorem dX5_number_73 : decode cX5_number 73 = .ok (.getfield 27, 3) := zk_of (zk_l (zk_r (zk_r (zk_l (zk_r zdX5_number_39)))))
theorem dX5_number_76 : decode cX5_number 76 = .ok (.iconst 1, 1) := zk_of (zk_r (zk_r (zk_r (zk_l (zk_r zdX5_number_39)))))
theorem dX5_number_77 : decode cX5_number 77 = .ok (.iadd, 1) := zk_of (zk_l (zk_l (zk_l (zk_r (zk_r zdX5_number_39)))))
theorem dX5_number_78 : decode cX5_number 78 = .ok (.putfield 27, 3) := zk_of (zk_r (zk_l (zk_l (zk_r (zk_r zdX5_number_39)))))
theorem dX5_number_81 : decode cX5_number 81 = .ok (.iinc 2 1, 3) := zk_of (zk_l (zk_r (zk_l (zk_r (zk_r zdX5_number_39)))))
theorem dX5_number_84 : decode cX5_number 84 = .ok (.goto (-80), 3) := zk_of (zk_r (zk_r (zk_l (zk_r (zk_r zdX5_number_39)))))
theorem dX5_number_59 : decode cX5_number 59 = .ok (.iconst (-1), 1) := zk_of (zk_l (zk_l (zk_r (zk_r (zk_r zdX5_number_39)))))
theorem dX5_number_60 : decode cX5_number 60 = .ok (.ireturn, 1) := zk_of (zk_r (zk_l (zk_r (zk_r (zk_r zdX5_number_39)))))
theorem dX5_number_4 : decode cX5_number 4 = .ok (.iload_n 2, 1) := zk_of (zk_l (zk_r (zk_r (zk_r (zk_r zdX5_number_39)))))
theorem dX5_number_5 : decode cX5_number 5 = .ok (.iconst 4, 1) := zk_of (zk_r (zk_r (zk_r (zk_r (zk_r zdX5_number_39)))))
theorem zdX5_number_6 : (and (and (and (and (and (zk cX5_number 6 (.if_icmp .gt 81) 3) (zk cX5_number 87 (.iconst (-1)) 1)) (zk cX5_number 88 (.ireturn) 1)) (and (and (zk cX5_number 9 (.aload_n 0) 1) (zk cX5_number 10 (.getfield 27) 3)) (zk cX5_number 13 (.aload_n 0) 1))) (and (and (and (zk cX5_number 14 (.getfield 23) 3) (zk cX5_number 17 (.getfield 34) 3)) (zk cX5_number 20 (.if_icmp .ge 18) 3)) (and (zk cX5_number 38 (.iconst 0) 1) (zk cX5_number 23 (.aload_n 0) 1)))) (and (and (and (and (zk cX5_number 24 (.getfield 23) 3) (zk cX5_number 27 (.getfield 90) 3)) (zk cX5_number 30 (.aload_n 0) 1)) (and (zk cX5_number 31 (.getfield 27) 3) (zk cX5_number 34 (.iaload) 1))) (and (and (and (zk cX5_number 35 (.goto 4) 3) (zk cX5_number 0 (.iconst 0) 1)) (zk cX5_number 1 (.istore_n 1) 1)) (and (zk cX5_number 2 (.iconst 0) 1) (zk cX5_number 3 (.istore_n 2) 1))))) = true := by decide +kernel
theorem dX5_number_6 : decode cX5_number 6 = .ok (.if_icmp .gt 81, 3) := zk_of (zk_l (zk_l (zk_l (zk_l (zk_l zdX5_number_6)))))
theorem dX5_number_87 : decode cX5_number 87 = .ok (.iconst (-1), 1) := zk_of (zk_r (zk_l (zk_l (zk_l (zk_l zdX5_number_6)))))
theorem dX5_number_88 : decode cX5_number 88 = .ok (.ireturn, 1) := zk_of (zk_r (zk_l (zk_l (zk_l zdX5_number_6))))
theorem dX5_number_9 : decode cX5_number 9 = .ok (.aload_n 0, 1) := zk_of (zk_l (zk_l (zk_r (zk_l (zk_l zdX5_number_6)))))
theorem dX5_number_10 : decode cX5_number 10 = .ok (.getfield 27, 3) := zk_of (zk_r (zk_l (zk_r (zk_l (zk_l zdX5_number_6)))))
theorem dX5_number_13 : decode cX5_number 13 = .ok (.aload_n 0, 1) := zk_of (zk_r (zk_r (zk_l (zk_l zdX5_number_6))))
theorem dX5_number_14 : decode cX5_number 14 = .ok (.getfield 23, 3) := zk_of (zk_l (zk_l (zk_l (zk_r (zk_l zdX5_number_6)))))
theorem dX5_number_17 : decode cX5_number 17 = .ok (.getfield 34, 3) := zk_of (zk_r (zk_l (zk_l (zk_r (zk_l zdX5_number_6)))))
theorem dX5_number_20 : decode cX5_number 20 = .ok (.if_icmp .ge 18, 3) := zk_of (zk_r (zk_l (zk_r (zk_l zdX5_number_6))))
theorem dX5_number_38 : decode cX5_number 38 = .ok (.iconst 0, 1) := zk_of (zk_l (zk_r (zk_r (zk_l zdX5_number_6))))
theorem dX5_number_23 : decode cX5_number 23 = .ok (.aload_n 0, 1) := zk_of (zk_r (zk_r (zk_r (zk_l zdX5_number_6))))
theorem dX5_number_24 : decode cX5_number 24 = .ok (.getfield 23, 3) := zk_of (zk_l (zk_l (zk_l (zk_l (zk_r zdX5_number_6)))))
theorem dX5_number_27 : decode cX5_number 27 = .ok (.getfield 90, 3) := zk_of (zk_r (zk_l (zk_l (zk_l (zk_r zdX5_number_6)))))
theorem dX5_number_30 : decode cX5_number 30 = .ok (.aload_n 0, 1) := zk_of (zk_r (zk_l (zk_l (zk_r zdX5_number_6))))
theorem dX5_number_31 : decode cX5_number 31 = .ok (.getfield 27, 3) := zk_of (zk_l (zk_r (zk_l (zk_r zdX5_number_6))))
theorem dX5_number_34 : decode cX5_number 34 = .ok (.iaload, 1) := zk_of (zk_r (zk_r (zk_l (zk_r zdX5_number_6))))
theorem dX5_number_35 : decode cX5_number 35 = .ok (.goto 4, 3) := zk_of (zk_l (zk_l (zk_l (zk_r (zk_r zdX5_number_6)))))
theorem dX5_number_0 : decode cX5_number 0 = .ok (.iconst 0, 1) := zk_of (zk_r (zk_l (zk_l (zk_r (zk_r zdX5_number_6)))))
theorem dX5_number_1 : decode cX5_number 1 = .ok (.istore_n 1, 1) := zk_of (zk_r (zk_l (zk_r (zk_r zdX5_number_6))))
theorem dX5_number_2 : decode cX5_number 2 = .ok (.iconst 0, 1) := zk_of (zk_l (zk_r (zk_r (zk_r zdX5_number_6))))
theorem dX5_number_3 : decode cX5_number 3 = .ok (.istore_n 2, 1) := zk_of (zk_r (zk_r (zk_r (zk_r zdX5_number_6))))
/-- HissHorn$Parser.number()I of cell 2 -/
def rmX5_number_2 : Room := { frames := 0, cells := 0, slots := 0, locals := 0 }
theorem hX5_number_2_X5 : ∀ w ∈ u_ws RX5 TX5 5, w ∈ wsX5_number := fun w h => (List.mem_cons_of_mem _ (List.mem_append_left _ (List.mem_append_right _ h)))
theorem mX5_number_2_1 : Cond.fieldLink RX5 27 "HissHorn$Parser" "at" "I" ∈ wsX5_number := (List.mem_cons_of_mem _ (List.mem_append_left _ (List.mem_append_left _ (List.mem_of_getElem? (i := 0) rfl))))
theorem mX5_number_2_2 : Cond.fieldLink RX5 23 "HissHorn$Parser" "tape" "LHissHorn$Tape;" ∈ wsX5_number := (List.mem_cons_of_mem _ (List.mem_append_left _ (List.mem_append_left _ (List.mem_of_getElem? (i := 1) rfl))))
theorem hX5_number_2_X9 : ∀ w ∈ u_ws RX9 TX9 2, w ∈ wsX5_number := fun w h => (List.mem_cons_of_mem _ (List.mem_append_right _ h))
theorem mX5_number_2_4 : Cond.fieldLink RX5 34 "HissHorn$Tape" "length" "I" ∈ wsX5_number := (List.mem_cons_of_mem _ (List.mem_append_left _ (List.mem_append_left _ (List.mem_of_getElem? (i := 2) rfl))))
def GX5_number_2_39 (k4 : Int32 → Int32 → SX → Option (Int32 × SX)) (z1 : Int32) (z2 : Int32) (y0 : Int32) (u : SX) : Option (Int32 × SX) := (if y0 < 48 then (some (z1, u)) else (if y0 ≤ 57 then (if z2 = 4 then (some ((-1), u)) else (lt (((z1 * 10) + y0) - 48) fun v1 => (lt (sI u 4 ((u.1 4) + 1)) fun u3 => (k4 v1 (z2 + 1) u3)))) else (some (z1, u))))
theorem mX5_number_2_5 : Cond.fieldLink RX5 90 "HissHorn$Tape" "bytes" "[I" ∈ wsX5_number := (List.mem_cons_of_mem _ (List.mem_append_left _ (List.mem_append_left _ (List.mem_of_getElem? (i := 3) rfl))))
def LX5_number_2_4  : Nat → Int32 → Int32 → SX → Option (Int32 × SX)
  | 0, _, _, _ => none
  | n + 1, z1, z2, u => (if 4 < z2 then (some ((-1), u)) else (if (u.1 1) ≤ (u.1 4) then (GX5_number_2_39 (LX5_number_2_4 n) z1 z2 0 u) else (gd (inb (u.1 4) 120) (GX5_number_2_39 (LX5_number_2_4 n) z1 z2 (u.2.1 13 (u.1 4).toNatClampNeg) u))))
def fX5_number_2  (u : SX) : Option (Int32 × SX) := (LX5_number_2_4  5000 0 0 u)
set_option maxHeartbeats 4000000 in
set_option maxRecDepth 100000 in
theorem wGX5_number_2_39 {p : Program} {l : Launch} {e : Env} {s : State} {m : MethodId} {args : Array Value} {below : List Frame} {meth : Method} {c : Code} {D : va_G} {cy : Nat → ClassId} {ad st : Nat → Nat} (C : Cx RX5 cX5_number 4 (some .int) wsX5_number p s m args meth c) (hK : Ky D [(cy 0, .int), (cy 1, .long), (cy 2, .boolean), (cy 3, .byte), (cy 4, .object "HissHorn$Text")] st s) (hJ : JX ad st) {r : Int32} {u' : SX} {k4 : Int32 → Int32 → SX → Option (Int32 × SX)} (hk4 : ∀ (z1 : Int32) (z2 : Int32) (u : SX) (H : Heap) (locs : List Loc) (ls : Array Slot), k4 z1 z2 u = some (r, u') → va_P D vwCl (VX cy ad st u) H → va_S (Ax (AX ad) s.heap.size) s.heap H locs → lv_has ls 4 [(0, .ref (ad 2)), (1, .int z1), (2, .int z2)] → W p l e rmX5_number_2 s m args below meth c H locs 0 0 (MQ below (Qi D (VX cy ad st) (AX ad) s.heap.size r u') args s 0 0 (Ax (AX ad) s.heap.size)) (F0 m 4 ls [])) (z1 : Int32) (z2 : Int32) (y0 : Int32) (u : SX) (H : Heap) (locs : List Loc) (ls : Array Slot) (h : GX5_number_2_39 k4 z1 z2 y0 u = some (r, u')) (hP : va_P D vwCl (VX cy ad st u) H) (hS : va_S (Ax (AX ad) s.heap.size) s.heap H locs) (hl : lv_has ls 4 [(0, .ref (ad 2)), (1, .int z1), (2, .int z2)]) : W p l e rmX5_number_2 s m args below meth c H locs 0 0 (MQ below (Qi D (VX cy ad st) (AX ad) s.heap.size r u') args s 0 0 (Ax (AX ad) s.heap.size)) (F0 m 39 ls [.int y0]) := by
  unfold GX5_number_2_39 at h
  refine lv_istore_n (lv' := [(3, .int y0), (0, .ref (ad 2)), (1, .int z1), (2, .int z2)]) C.1 C.2.1 dX5_number_39 rfl hl (by decide) rfl (fun ls hl => ?_)
  replace hl := lv_sub (l' := [(0, .ref (ad 2)), (1, .int z1), (2, .int z2), (3, .int y0)]) hl [1, 2, 3, 0] rfl
  refine lv_iload_n C.1 C.2.1 dX5_number_40 rfl (lv_at hl 3 rfl) ?_
  refine lv_bipush (v := 48) C.1 C.2.1 dX5_number_41 (by decide) ?_
  refine lv_icmp_lt (tgt := 52) C.1 C.2.1 dX5_number_43 (by decide) (fun c43 => ?_) (fun c43 => ?_)
  · rw [if_pos c43] at h
    refine lv_iload_n C.1 C.2.1 dX5_number_52 rfl (lv_at hl 1 rfl) ?_
    cases h
    exact rt_i C hP hS dX5_number_53
  · rw [if_neg c43] at h
    refine lv_iload_n C.1 C.2.1 dX5_number_46 rfl (lv_at hl 3 rfl) ?_
    refine lv_bipush (v := 57) C.1 C.2.1 dX5_number_47 (by decide) ?_
    refine lv_icmp_le (tgt := 54) C.1 C.2.1 dX5_number_49 (by decide) (fun c49 => ?_) (fun c49 => ?_)
    · rw [if_pos c49] at h
      refine lv_iload_n C.1 C.2.1 dX5_number_54 rfl (lv_at hl 2 rfl) ?_
      refine lv_iconst (v := 4) C.1 C.2.1 dX5_number_55 (by decide) ?_
      refine lv_icmp_ne (tgt := 61) C.1 C.2.1 dX5_number_56 (by decide) (fun c56 => ?_) (fun c56 => ?_)
      · rw [if_neg c56] at h
        refine lv_iload_n C.1 C.2.1 dX5_number_61 rfl (lv_at hl 1 rfl) ?_
        refine lv_bipush (v := 10) C.1 C.2.1 dX5_number_62 (by decide) ?_
        refine lv_imul C.1 C.2.1 dX5_number_64 ?_
        refine lv_iload_n C.1 C.2.1 dX5_number_65 rfl (lv_at hl 3 rfl) ?_
        refine lv_iadd C.1 C.2.1 dX5_number_66 ?_
        refine lv_bipush (v := 48) C.1 C.2.1 dX5_number_67 (by decide) ?_
        refine lv_isub C.1 C.2.1 dX5_number_69 ?_
        refine lv_topi (fun v1 hv2 => ?_)
        replace h := lt_e hv2 h
        try dsimp only at h
        refine lv_istore_n (lv' := [(1, .int v1), (0, .ref (ad 2)), (2, .int z2), (3, .int y0)]) C.1 C.2.1 dX5_number_70 rfl hl (by decide) rfl (fun ls hl => ?_)
        replace hl := lv_sub (l' := [(0, .ref (ad 2)), (1, .int v1), (2, .int z2), (3, .int y0)]) hl [1, 0, 2, 3] rfl
        refine lv_aload_n C.1 C.2.1 dX5_number_71 rfl (lv_at hl 0 rfl) ?_
        refine lv_dup C.1 C.2.1 dX5_number_72 rfl ?_
        refine gX_2_at C hX5_number_2_X5 hK hP mX5_number_2_1 dX5_number_73 ?_
        refine lv_iconst (v := 1) C.1 C.2.1 dX5_number_76 (by decide) ?_
        refine lv_iadd C.1 C.2.1 dX5_number_77 ?_
        refine pX_2_at C hX5_number_2_X5 hK hP hJ hS mX5_number_2_1 dX5_number_78 (fun H locs hP hS => ?_)
        obtain ⟨u3, hu4, h⟩ := lt_some h
        rw [← hu4] at hP
        refine lv_iinc (v := z2 + 1) (lv' := [(2, .int (z2 + 1)), (0, .ref (ad 2)), (1, .int v1), (3, .int y0)]) C.1 C.2.1 dX5_number_81 hl (k := 2) rfl rfl (by decide) rfl (fun ls hl => ?_)
        replace hl := lv_sub (l' := [(0, .ref (ad 2)), (1, .int v1), (2, .int (z2 + 1)), (3, .int y0)]) hl [1, 2, 0, 3] rfl
        refine lv_goto (tgt := 4) C.1 C.2.1 dX5_number_84 (by decide) ?_
        exact hk4 _ _ _ _ _ _ h hP hS (lv_sub hl [0, 1, 2] rfl)
      · rw [if_pos c56] at h
        refine lv_iconst (v := (-1)) C.1 C.2.1 dX5_number_59 (by decide) ?_
        cases h
        exact rt_i C hP hS dX5_number_60
    · rw [if_neg c49] at h
      refine lv_iload_n C.1 C.2.1 dX5_number_52 rfl (lv_at hl 1 rfl) ?_
      cases h
      exact rt_i C hP hS dX5_number_53
set_option maxHeartbeats 4000000 in
set_option maxRecDepth 100000 in
theorem wLX5_number_2_4 {p : Program} {l : Launch} {e : Env} {s : State} {m : MethodId} {args : Array Value} {below : List Frame} {meth : Method} {c : Code} {D : va_G} {cy : Nat → ClassId} {ad st : Nat → Nat} (C : Cx RX5 cX5_number 4 (some .int) wsX5_number p s m args meth c) (hK : Ky D [(cy 0, .int), (cy 1, .long), (cy 2, .boolean), (cy 3, .byte), (cy 4, .object "HissHorn$Text")] st s) (hJ : JX ad st) {r : Int32} {u' : SX}   : ∀ (n : Nat) (z1 : Int32) (z2 : Int32) (u : SX) (H : Heap) (locs : List Loc) (ls : Array Slot), LX5_number_2_4  n z1 z2 u = some (r, u') → va_P D vwCl (VX cy ad st u) H → va_S (Ax (AX ad) s.heap.size) s.heap H locs → lv_has ls 4 [(0, .ref (ad 2)), (1, .int z1), (2, .int z2)] → W p l e rmX5_number_2 s m args below meth c H locs 0 0 (MQ below (Qi D (VX cy ad st) (AX ad) s.heap.size r u') args s 0 0 (Ax (AX ad) s.heap.size)) (F0 m 4 ls []) := by
  intro n
  induction n with
  | zero =>
    intro z1 z2 u H locs ls h
    exact absurd h (by intro q; cases q)
  | succ n ih =>
    intro z1 z2 u H locs ls h hP hS hl
    rw [LX5_number_2_4] at h
    refine lv_iload_n C.1 C.2.1 dX5_number_4 rfl (lv_at hl 2 rfl) ?_
    refine lv_iconst (v := 4) C.1 C.2.1 dX5_number_5 (by decide) ?_
    refine lv_icmp_gt (tgt := 87) C.1 C.2.1 dX5_number_6 (by decide) (fun c6 => ?_) (fun c6 => ?_)
    · rw [if_pos c6] at h
      refine lv_iconst (v := (-1)) C.1 C.2.1 dX5_number_87 (by decide) ?_
      cases h
      exact rt_i C hP hS dX5_number_88
    · rw [if_neg c6] at h
      refine lv_aload_n C.1 C.2.1 dX5_number_9 rfl (lv_at hl 0 rfl) ?_
      refine gX_2_at C hX5_number_2_X5 hK hP mX5_number_2_1 dX5_number_10 ?_
      refine lv_aload_n C.1 C.2.1 dX5_number_13 rfl (lv_at hl 0 rfl) ?_
      refine gX_2_tape C hX5_number_2_X5 hK hP mX5_number_2_2 dX5_number_14 ?_
      refine gX_1_length C hX5_number_2_X9 hK hP mX5_number_2_4 dX5_number_17 ?_
      refine lv_icmp_ge (tgt := 38) C.1 C.2.1 dX5_number_20 (by decide) (fun c20 => ?_) (fun c20 => ?_)
      · rw [if_pos c20] at h
        refine lv_iconst (v := 0) C.1 C.2.1 dX5_number_38 (by decide) ?_
        exact wGX5_number_2_39 C hK hJ ih _ _ _ _ _ _ _ h hP hS hl
      · rw [if_neg c20] at h
        refine lv_aload_n C.1 C.2.1 dX5_number_23 rfl (lv_at hl 0 rfl) ?_
        refine gX_2_tape C hX5_number_2_X5 hK hP mX5_number_2_2 dX5_number_24 ?_
        refine gX_1_bytes C hX5_number_2_X9 hK hP mX5_number_2_5 dX5_number_27 ?_
        refine lv_aload_n C.1 C.2.1 dX5_number_30 rfl (lv_at hl 0 rfl) ?_
        refine gX_2_at C hX5_number_2_X5 hK hP mX5_number_2_1 dX5_number_31 ?_
        obtain ⟨hg5, h⟩ := gd_some h
        refine lX_13 C hK hP hg5 dX5_number_34 ?_
        refine lv_goto (tgt := 39) C.1 C.2.1 dX5_number_35 (by decide) ?_
        exact wGX5_number_2_39 C hK hJ ih _ _ _ _ _ _ _ h hP hS hl
set_option maxHeartbeats 4000000 in
set_option maxRecDepth 100000 in
theorem wX5_number_2 {p : Program} {l : Launch} {e : Env} {s : State} {m : MethodId} {args : Array Value} {below : List Frame} {meth : Method} {c : Code} {D : va_G} {cy : Nat → ClassId} {ad st : Nat → Nat} (C : Cx RX5 cX5_number 4 (some .int) wsX5_number p s m args meth c) (hK : Ky D [(cy 0, .int), (cy 1, .long), (cy 2, .boolean), (cy 3, .byte), (cy 4, .object "HissHorn$Text")] st s) (hJ : JX ad st)  {u : SX} {r : Int32} {u' : SX} {H : Heap} {locs : List Loc} {ls : Array Slot} (h : fX5_number_2  u = some (r, u')) (hP : va_P D vwCl (VX cy ad st u) H) (hS : va_S (Ax (AX ad) s.heap.size) s.heap H locs) (hl : lv_has ls 4 [(0, .ref (ad 2))]) : W p l e rmX5_number_2 s m args below meth c H locs 0 0 (MQ below (Qi D (VX cy ad st) (AX ad) s.heap.size r u') args s 0 0 (Ax (AX ad) s.heap.size)) (F0 m 0 ls []) := by
  unfold fX5_number_2 at h
  refine lv_iconst (v := 0) C.1 C.2.1 dX5_number_0 (by decide) ?_
  refine lv_istore_n (lv' := [(1, .int 0), (0, .ref (ad 2))]) C.1 C.2.1 dX5_number_1 rfl hl (by decide) rfl (fun ls hl => ?_)
  replace hl := lv_sub (l' := [(0, .ref (ad 2)), (1, .int 0)]) hl [1, 0] rfl
  refine lv_iconst (v := 0) C.1 C.2.1 dX5_number_2 (by decide) ?_
  refine lv_istore_n (lv' := [(2, .int 0), (0, .ref (ad 2)), (1, .int 0)]) C.1 C.2.1 dX5_number_3 rfl hl (by decide) rfl (fun ls hl => ?_)
  replace hl := lv_sub (l' := [(0, .ref (ad 2)), (1, .int 0), (2, .int 0)]) hl [1, 2, 0] rfl
  exact wLX5_number_2_4 C hK hJ  5000 _ _ _ _ _ _ h hP hS hl
theorem metX5_number_2 (l : Launch) (D : va_G) (cy : Nat → ClassId) (ad st : Nat → Nat) (hJ : JX ad st) (sz : Nat)  {u : SX} {r : Int32} {u' : SX} (h : fX5_number_2  u = some (r, u')) : Met l yX5_number wsX5_number rmX5_number_2 (va_Pc [.ref (ad 2)] (Px D [(cy 0, .int), (cy 1, .long), (cy 2, .boolean), (cy 3, .byte), (cy 4, .object "HissHorn$Text")] st (VX cy ad st) sz u)) (Qi D (VX cy ad st) (AX ad) sz r u') 0 0 (Ax (AX ad) sz) := by
  refine Met.ofW (cc := cX5_number) (maxL := 4) (ret := (some .int)) (by decide) rfl ?_
  intro p e s m args below meth c s₁ B hml hv
  obtain ⟨rfl, hsz, hP, hK⟩ := hv
  subst hsz
  have C : Cx RX5 cX5_number 4 (some .int) wsX5_number p s m _ meth c := ⟨B.exec, B.bytes, hml, B.returns, findClass_of_methodNamed B.named, atoms_spec (ws := wsX5_number) B.pre, B.notSynchronized⟩
  have hl := lv_entry ([.ref (ad 2)]) (n := 4) (Nat.le_of_ble_eq_true rfl)
  rw [lg_entry_eq]
  exact wX5_number_2 C hK hJ h hP va_S.rf hl

/-- room of a recursion by its depth -/
def rmX5conditiong (d : Nat) : Room := { frames := 4 + d, cells := 0, slots := 0, locals := 91 + 64 * d }
theorem rmX5conditiong_f (d : Nat) : 4 ≤ (rmX5conditiong d).frames := Nat.le_add_right _ _
theorem rmX5conditiong_l (d : Nat) : 91 ≤ (rmX5conditiong d).locals := Nat.le_add_right _ _
theorem rmX5conditiong_sf (d : Nat) : (rmX5conditiong d).frames + 1 ≤ (rmX5conditiong (d + 1)).frames := Nat.le_refl _
theorem rmX5conditiong_sl (d : Nat) {k : Nat} (h : k ≤ 64) : k + (rmX5conditiong d).locals ≤ (rmX5conditiong (d + 1)).locals := by show k + (91 + 64 * d) ≤ 91 + 64 * (d + 1); omega
def hRX5conditiong (l : Launch) (D : va_G) (cy : Nat → ClassId) (ad st : Nat → Nat) (rc : Nat → Int32 → Int32 → SX → Option (Int32 × SX)) (dd : Nat) : Prop := (∀ (sz : Nat) (x1 : Int32) (x2 : Int32) (u : SX) (r : Int32) (u' : SX), rc 0 x1 x2 u = some (r, u') → Met l yX5_condition wsX5_condition (rmX5conditiong dd) (va_Pc [.ref (ad 2), .int x1, .int x2] (Px D [(cy 0, .int), (cy 1, .long), (cy 2, .boolean), (cy 3, .byte), (cy 4, .object "HissHorn$Text")] st (VX cy ad st) sz u)) (Qi D (VX cy ad st) (AX ad) sz r u') 0 0 (Ax (AX ad) sz)) ∧ (∀ (sz : Nat) (x1 : Int32) (x2 : Int32) (u : SX) (r : Int32) (u' : SX), rc 1 x1 x2 u = some (r, u') → Met l yX5_unit wsX5_unit (rmX5conditiong dd) (va_Pc [.ref (ad 2), .int x1, .int x2] (Px D [(cy 0, .int), (cy 1, .long), (cy 2, .boolean), (cy 3, .byte), (cy 4, .object "HissHorn$Text")] st (VX cy ad st) sz u)) (Qi D (VX cy ad st) (AX ad) sz r u') 0 0 (Ax (AX ad) sz)) ∧ (∀ (sz : Nat) (x1 : Int32) (u : SX) (r : Int32) (u' : SX), rc 2 x1 0 u = some (r, u') → Met l yX5_total wsX5_total (rmX5conditiong dd) (va_Pc [.ref (ad 2), .int x1] (Px D [(cy 0, .int), (cy 1, .long), (cy 2, .boolean), (cy 3, .byte), (cy 4, .object "HissHorn$Text")] st (VX cy ad st) sz u)) (Qi D (VX cy ad st) (AX ad) sz r u') 0 0 (Ax (AX ad) sz)) ∧ (∀ (sz : Nat) (x1 : Int32) (u : SX) (r : Int32) (u' : SX), rc 3 x1 0 u = some (r, u') → Met l yX5_atom wsX5_atom (rmX5conditiong dd) (va_Pc [.ref (ad 2), .int x1] (Px D [(cy 0, .int), (cy 1, .long), (cy 2, .boolean), (cy 3, .byte), (cy 4, .object "HissHorn$Text")] st (VX cy ad st) sz u)) (Qi D (VX cy ad st) (AX ad) sz r u') 0 0 (Ax (AX ad) sz))

theorem zdX5_condition_103 : (and (and (and (and (and (zk cX5_condition 103 (.aload_n 0) 1) (zk cX5_condition 104 (.dup) 1)) (and (zk cX5_condition 105 (.getfield 27) 3) (zk cX5_condition 108 (.iconst 1) 1))) (and (and (zk cX5_condition 109 (.iadd) 1) (zk cX5_condition 110 (.putfield 27) 3)) (and (zk cX5_condition 113 (.iinc 5 1) 3) (zk cX5_condition 116 (.goto (-108)) 3)))) (and (and (and (zk cX5_condition 96 (.istore_n 3) 1) (zk cX5_condition 97 (.iload_n 3) 1)) (and (zk cX5_condition 98 (.ifCond .ne 5) 3) (zk cX5_condition 101 (.iconst 1) 1))) (and (and (zk cX5_condition 102 (.ireturn) 1) (zk cX5_condition 70 (.istore 4) 2)) (and (zk cX5_condition 72 (.iload 4) 2) (zk cX5_condition 74 (.ifCond .ne 29) 3))))) (and (and (and (and (zk cX5_condition 77 (.aload_n 0) 1) (zk cX5_condition 78 (.iload_n 3) 1)) (and (zk cX5_condition 79 (.iconst 0) 1) (zk cX5_condition 80 (.invokevirtual 67) 3))) (and (and (zk cX5_condition 83 (.iload 6) 2) (zk cX5_condition 85 (.bipush 124) 2)) (and (zk cX5_condition 87 (.if_icmp .ne 8) 3) (zk cX5_condition 95 (.iconst 0) 1)))) (and (and (and (zk cX5_condition 90 (.iload 6) 2) (zk cX5_condition 92 (.goto 4) 3)) (and (zk cX5_condition 36 (.invokevirtual 75) 3) (zk cX5_condition 39 (.ifCond .ne 5) 3))) (and (and (zk cX5_condition 44 (.aload_n 0) 1) (zk cX5_condition 45 (.iload 4) 2)) (and (zk cX5_condition 47 (.iconst 0) 1) (zk cX5_condition 48 (.invokevirtual 67) 3)))))) = true := by decide +kernel
theorem dX5_condition_103 : decode cX5_condition 103 = .ok (.aload_n 0, 1) := zk_of (zk_l (zk_l (zk_l (zk_l (zk_l zdX5_condition_103)))))
theorem dX5_condition_104 : decode cX5_condition 104 = .ok (.dup, 1) := zk_of (zk_r (zk_l (zk_l (zk_l (zk_l zdX5_condition_103)))))
theorem dX5_condition_105 : decode cX5_condition 105 = .ok (.getfield 27, 3) := zk_of (zk_l (zk_r (zk_l (zk_l (zk_l zdX5_condition_103)))))
theorem dX5_condition_108 : decode cX5_condition 108 = .ok (.iconst 1, 1) := zk_of (zk_r (zk_r (zk_l (zk_l (zk_l zdX5_condition_103)))))
theorem dX5_condition_109 : decode cX5_condition 109 = .ok (.iadd, 1) := zk_of (zk_l (zk_l (zk_r (zk_l (zk_l zdX5_condition_103)))))
theorem dX5_condition_110 : decode cX5_condition 110 = .ok (.putfield 27, 3) := zk_of (zk_r (zk_l (zk_r (zk_l (zk_l zdX5_condition_103)))))
theorem dX5_condition_113 : decode cX5_condition 113 = .ok (.iinc 5 1, 3) := zk_of (zk_l (zk_r (zk_r (zk_l (zk_l zdX5_condition_103)))))
theorem dX5_condition_116 : decode cX5_condition 116 = .ok (.goto (-108), 3) := zk_of (zk_r (zk_r (zk_r (zk_l (zk_l zdX5_condition_103)))))
theorem dX5_condition_96 : decode cX5_condition 96 = .ok (.istore_n 3, 1) := zk_of (zk_l (zk_l (zk_l (zk_r (zk_l zdX5_condition_103)))))
theorem dX5_condition_97 : decode cX5_condition 97 = .ok (.iload_n 3, 1) := zk_of (zk_r (zk_l (zk_l (zk_r (zk_l zdX5_condition_103)))))
theorem dX5_condition_98 : decode cX5_condition 98 = .ok (.ifCond .ne 5, 3) := zk_of (zk_l (zk_r (zk_l (zk_r (zk_l zdX5_condition_103)))))
theorem dX5_condition_101 : decode cX5_condition 101 = .ok (.iconst 1, 1) := zk_of (zk_r (zk_r (zk_l (zk_r (zk_l zdX5_condition_103)))))
theorem dX5_condition_102 : decode cX5_condition 102 = .ok (.ireturn, 1) := zk_of (zk_l (zk_l (zk_r (zk_r (zk_l zdX5_condition_103)))))
theorem dX5_condition_70 : decode cX5_condition 70 = .ok (.istore 4, 2) := zk_of (zk_r (zk_l (zk_r (zk_r (zk_l zdX5_condition_103)))))
theorem dX5_condition_72 : decode cX5_condition 72 = .ok (.iload 4, 2) := zk_of (zk_l (zk_r (zk_r (zk_r (zk_l zdX5_condition_103)))))
theorem dX5_condition_74 : decode cX5_condition 74 = .ok (.ifCond .ne 29, 3) := zk_of (zk_r (zk_r (zk_r (zk_r (zk_l zdX5_condition_103)))))
theorem dX5_condition_77 : decode cX5_condition 77 = .ok (.aload_n 0, 1) := zk_of (zk_l (zk_l (zk_l (zk_l (zk_r zdX5_condition_103)))))
theorem dX5_condition_78 : decode cX5_condition 78 = .ok (.iload_n 3, 1) := zk_of (zk_r (zk_l (zk_l (zk_l (zk_r zdX5_condition_103)))))
theorem dX5_condition_79 : decode cX5_condition 79 = .ok (.iconst 0, 1) := zk_of (zk_l (zk_r (zk_l (zk_l (zk_r zdX5_condition_103)))))
theorem dX5_condition_80 : decode cX5_condition 80 = .ok (.invokevirtual 67, 3) := zk_of (zk_r (zk_r (zk_l (zk_l (zk_r zdX5_condition_103)))))
theorem dX5_condition_83 : decode cX5_condition 83 = .ok (.iload 6, 2) := zk_of (zk_l (zk_l (zk_r (zk_l (zk_r zdX5_condition_103)))))
theorem dX5_condition_85 : decode cX5_condition 85 = .ok (.bipush 124, 2) := zk_of (zk_r (zk_l (zk_r (zk_l (zk_r zdX5_condition_103)))))
theorem dX5_condition_87 : decode cX5_condition 87 = .ok (.if_icmp .ne 8, 3) := zk_of (zk_l (zk_r (zk_r (zk_l (zk_r zdX5_condition_103)))))
theorem dX5_condition_95 : decode cX5_condition 95 = .ok (.iconst 0, 1) := zk_of (zk_r (zk_r (zk_r (zk_l (zk_r zdX5_condition_103)))))
theorem dX5_condition_90 : decode cX5_condition 90 = .ok (.iload 6, 2) := zk_of (zk_l (zk_l (zk_l (zk_r (zk_r zdX5_condition_103)))))
theorem dX5_condition_92 : decode cX5_condition 92 = .ok (.goto 4, 3) := zk_of (zk_r (zk_l (zk_l (zk_r (zk_r zdX5_condition_103)))))
theorem dX5_condition_36 : decode cX5_condition 36 = .ok (.invokevirtual 75, 3) := zk_of (zk_l (zk_r (zk_l (zk_r (zk_r zdX5_condition_103)))))
theorem dX5_condition_39 : decode cX5_condition 39 = .ok (.ifCond .ne 5, 3) := zk_of (zk_r (zk_r (zk_l (zk_r (zk_r zdX5_condition_103)))))
theorem dX5_condition_44 : decode cX5_condition 44 = .ok (.aload_n 0, 1) := zk_of (zk_l (zk_l (zk_r (zk_r (zk_r zdX5_condition_103)))))
theorem dX5_condition_45 : decode cX5_condition 45 = .ok (.iload 4, 2) := zk_of (zk_r (zk_l (zk_r (zk_r (zk_r zdX5_condition_103)))))
theorem dX5_condition_47 : decode cX5_condition 47 = .ok (.iconst 0, 1) := zk_of (zk_l (zk_r (zk_r (zk_r (zk_r zdX5_condition_103)))))
theorem dX5_condition_48 : decode cX5_condition 48 = .ok (.invokevirtual 67, 3) := zk_of (zk_r (zk_r (zk_r (zk_r (zk_r zdX5_condition_103)))))
set_option maxRecDepth 20000 in
theorem ggX5_condition_X5_emit : GoodIn wsX5_condition wsX5_emit := goodIn_r _ [11, 12, 13, 132, 133, 134, 135, 136] rfl (by decide +kernel)
set_option maxRecDepth 20000 in
theorem gX5_condition_X5_emit : GoodIn wsX5_condition (wsV RX5 67 RX5 yX5_emit wsX5_emit) := goodIn_app (goodIn_of _ (by decide +kernel)) ggX5_condition_X5_emit
set_option maxRecDepth 20000 in
theorem ggX5_condition_X5_unit : GoodIn wsX5_condition wsX5_unit := goodIn_r _ [19, 3, 14, 15, 16, 7, 17, 1, 2, 18, 4, 5, 6, 8, 9, 10, 11, 12, 13, 20, 21, 22, 23, 24, 25, 26, 27, 28, 29, 30, 31, 32, 33, 34, 35, 36, 37, 38, 39, 40, 41, 42, 43, 44, 45, 46, 47, 48, 49, 50, 51, 52, 53, 54, 55, 56, 57, 58, 59, 60, 61, 62, 63, 64, 65, 66, 67, 68, 69, 70, 71, 72, 73, 74, 75, 76, 77, 78, 79, 80, 81, 82, 83, 84, 85, 86, 87, 88, 89, 90, 91, 92, 93, 94, 95, 96, 97, 98, 99, 100, 101, 102, 103, 104, 105, 106, 107, 108, 109, 110, 111, 112, 113, 114, 115, 116, 117, 118, 119, 120, 121, 122, 123, 124, 125, 126, 127, 128, 129, 130, 131, 0, 132, 133, 134, 135, 136, 137, 138] rfl (by decide +kernel)
set_option maxRecDepth 20000 in
theorem gX5_condition_X5_unit : GoodIn wsX5_condition (wsV RX5 75 RX5 yX5_unit wsX5_unit) := goodIn_app (goodIn_of _ (by decide +kernel)) ggX5_condition_X5_unit
theorem zdX5_condition_51 : (and (and (and (and (and (zk cX5_condition 51 (.aload_n 0) 1) (zk cX5_condition 52 (.invokevirtual 45) 3)) (and (zk cX5_condition 55 (.istore 6) 2) (zk cX5_condition 57 (.iload 6) 2))) (and (and (zk cX5_condition 59 (.bipush 38) 2) (zk cX5_condition 61 (.if_icmp .ne 8) 3)) (and (zk cX5_condition 69 (.iconst 0) 1) (zk cX5_condition 64 (.iload 6) 2)))) (and (and (and (zk cX5_condition 66 (.goto 4) 3) (zk cX5_condition 42 (.iconst 0) 1)) (and (zk cX5_condition 43 (.ireturn) 1) (zk cX5_condition 35 (.iconst 0) 1))) (and (and (zk cX5_condition 8 (.iload 5) 2) (zk cX5_condition 10 (.aload_n 0) 1)) (and (zk cX5_condition 11 (.getfield 23) 3) (zk cX5_condition 14 (.getfield 34) 3))))) (and (and (and (and (zk cX5_condition 17 (.if_icmp .gt 102) 3) (zk cX5_condition 119 (.iconst 0) 1)) (and (zk cX5_condition 120 (.ireturn) 1) (zk cX5_condition 20 (.aload_n 0) 1))) (and (and (zk cX5_condition 21 (.iload_n 1) 1) (zk cX5_condition 22 (.iload_n 2) 1)) (and (zk cX5_condition 23 (.ifCond .eq 12) 3) (zk cX5_condition 26 (.iload 5) 2)))) (and (and (and (zk cX5_condition 28 (.ifCond .ne 7) 3) (zk cX5_condition 31 (.iconst 1) 1)) (and (zk cX5_condition 32 (.goto 4) 3) (zk cX5_condition 0 (.iconst 0) 1))) (and (and (zk cX5_condition 1 (.istore_n 3) 1) (zk cX5_condition 2 (.iconst 0) 1)) (and (zk cX5_condition 3 (.istore 4) 2) (zk cX5_condition 5 (.iconst 0) 1)))))) = true := by decide +kernel
theorem dX5_condition_51 : decode cX5_condition 51 = .ok (.aload_n 0, 1) := zk_of (zk_l (zk_l (zk_l (zk_l (zk_l zdX5_condition_51)))))
theorem dX5_condition_52 : decode cX5_condition 52 = .ok (.invokevirtual 45, 3) := zk_of (zk_r (zk_l (zk_l (zk_l (zk_l zdX5_condition_51)))))
theorem dX5_condition_55 : decode cX5_condition 55 = .ok (.istore 6, 2) := zk_of (zk_l (zk_r (zk_l (zk_l (zk_l zdX5_condition_51)))))
theorem dX5_condition_57 : decode cX5_condition 57 = .ok (.iload 6, 2) := zk_of (zk_r (zk_r (zk_l (zk_l (zk_l zdX5_condition_51)))))
theorem dX5_condition_59 : decode cX5_condition 59 = .ok (.bipush 38, 2) := zk_of (zk_l (zk_l (zk_r (zk_l (zk_l zdX5_condition_51)))))
theorem dX5_condition_61 : decode cX5_condition 61 = .ok (.if_icmp .ne 8, 3) := zk_of (zk_r (zk_l (zk_r (zk_l (zk_l zdX5_condition_51)))))
theorem dX5_condition_69 : decode cX5_condition 69 = .ok (.iconst 0, 1) := zk_of (zk_l (zk_r (zk_r (zk_l (zk_l zdX5_condition_51)))))
theorem dX5_condition_64 : decode cX5_condition 64 = .ok (.iload 6, 2) := zk_of (zk_r (zk_r (zk_r (zk_l (zk_l zdX5_condition_51)))))
theorem dX5_condition_66 : decode cX5_condition 66 = .ok (.goto 4, 3) := zk_of (zk_l (zk_l (zk_l (zk_r (zk_l zdX5_condition_51)))))
theorem dX5_condition_42 : decode cX5_condition 42 = .ok (.iconst 0, 1) := zk_of (zk_r (zk_l (zk_l (zk_r (zk_l zdX5_condition_51)))))
theorem dX5_condition_43 : decode cX5_condition 43 = .ok (.ireturn, 1) := zk_of (zk_l (zk_r (zk_l (zk_r (zk_l zdX5_condition_51)))))
theorem dX5_condition_35 : decode cX5_condition 35 = .ok (.iconst 0, 1) := zk_of (zk_r (zk_r (zk_l (zk_r (zk_l zdX5_condition_51)))))
theorem dX5_condition_8 : decode cX5_condition 8 = .ok (.iload 5, 2) := zk_of (zk_l (zk_l (zk_r (zk_r (zk_l zdX5_condition_51)))))
theorem dX5_condition_10 : decode cX5_condition 10 = .ok (.aload_n 0, 1) := zk_of (zk_r (zk_l (zk_r (zk_r (zk_l zdX5_condition_51)))))
theorem dX5_condition_11 : decode cX5_condition 11 = .ok (.getfield 23, 3) := zk_of (zk_l (zk_r (zk_r (zk_r (zk_l zdX5_condition_51)))))
theorem dX5_condition_14 : decode cX5_condition 14 = .ok (.getfield 34, 3) := zk_of (zk_r (zk_r (zk_r (zk_r (zk_l zdX5_condition_51)))))
theorem dX5_condition_17 : decode cX5_condition 17 = .ok (.if_icmp .gt 102, 3) := zk_of (zk_l (zk_l (zk_l (zk_l (zk_r zdX5_condition_51)))))
theorem dX5_condition_119 : decode cX5_condition 119 = .ok (.iconst 0, 1) := zk_of (zk_r (zk_l (zk_l (zk_l (zk_r zdX5_condition_51)))))
theorem dX5_condition_120 : decode cX5_condition 120 = .ok (.ireturn, 1) := zk_of (zk_l (zk_r (zk_l (zk_l (zk_r zdX5_condition_51)))))
theorem dX5_condition_20 : decode cX5_condition 20 = .ok (.aload_n 0, 1) := zk_of (zk_r (zk_r (zk_l (zk_l (zk_r zdX5_condition_51)))))
theorem dX5_condition_21 : decode cX5_condition 21 = .ok (.iload_n 1, 1) := zk_of (zk_l (zk_l (zk_r (zk_l (zk_r zdX5_condition_51)))))
theorem dX5_condition_22 : decode cX5_condition 22 = .ok (.iload_n 2, 1) := zk_of (zk_r (zk_l (zk_r (zk_l (zk_r zdX5_condition_51)))))
theorem dX5_condition_23 : decode cX5_condition 23 = .ok (.ifCond .eq 12, 3) := zk_of (zk_l (zk_r (zk_r (zk_l (zk_r zdX5_condition_51)))))
theorem dX5_condition_26 : decode cX5_condition 26 = .ok (.iload 5, 2) := zk_of (zk_r (zk_r (zk_r (zk_l (zk_r zdX5_condition_51)))))
theorem dX5_condition_28 : decode cX5_condition 28 = .ok (.ifCond .ne 7, 3) := zk_of (zk_l (zk_l (zk_l (zk_r (zk_r zdX5_condition_51)))))
theorem dX5_condition_31 : decode cX5_condition 31 = .ok (.iconst 1, 1) := zk_of (zk_r (zk_l (zk_l (zk_r (zk_r zdX5_condition_51)))))
theorem dX5_condition_32 : decode cX5_condition 32 = .ok (.goto 4, 3) := zk_of (zk_l (zk_r (zk_l (zk_r (zk_r zdX5_condition_51)))))
theorem dX5_condition_0 : decode cX5_condition 0 = .ok (.iconst 0, 1) := zk_of (zk_r (zk_r (zk_l (zk_r (zk_r zdX5_condition_51)))))
theorem dX5_condition_1 : decode cX5_condition 1 = .ok (.istore_n 3, 1) := zk_of (zk_l (zk_l (zk_r (zk_r (zk_r zdX5_condition_51)))))
theorem dX5_condition_2 : decode cX5_condition 2 = .ok (.iconst 0, 1) := zk_of (zk_r (zk_l (zk_r (zk_r (zk_r zdX5_condition_51)))))
theorem dX5_condition_3 : decode cX5_condition 3 = .ok (.istore 4, 2) := zk_of (zk_l (zk_r (zk_r (zk_r (zk_r zdX5_condition_51)))))
theorem dX5_condition_5 : decode cX5_condition 5 = .ok (.iconst 0, 1) := zk_of (zk_r (zk_r (zk_r (zk_r (zk_r zdX5_condition_51)))))
set_option maxRecDepth 20000 in
theorem ggX5_condition_X5_peek : GoodIn wsX5_condition wsX5_peek := goodIn_r _ [17, 3, 1, 2, 18, 132, 133, 134, 135, 136, 137, 138] rfl (by decide +kernel)
set_option maxRecDepth 20000 in
theorem gX5_condition_X5_peek : GoodIn wsX5_condition (wsV RX5 45 RX5 yX5_peek wsX5_peek) := goodIn_app (goodIn_of _ (by decide +kernel)) ggX5_condition_X5_peek
theorem dX5_condition_6 : decode cX5_condition 6 = .ok (.istore 5, 2) := by decide +kernel
/-- HissHorn$Parser.condition(IZ)Z of cell 2 -/
theorem hX5_condition_2_X5 : ∀ w ∈ u_ws RX5 TX5 5, w ∈ wsX5_condition := fun w h => (List.mem_cons_of_mem _ (List.mem_append_left _ (List.mem_append_right _ h)))
theorem mX5_condition_2_1 : Cond.fieldLink RX5 23 "HissHorn$Parser" "tape" "LHissHorn$Tape;" ∈ wsX5_condition := (List.mem_cons_of_mem _ (List.mem_append_left _ (List.mem_append_left _ (List.mem_append_left _ (List.mem_of_getElem? (i := 0) rfl)))))
theorem hX5_condition_2_X9 : ∀ w ∈ u_ws RX9 TX9 2, w ∈ wsX5_condition := fun w h => (List.mem_cons_of_mem _ (List.mem_append_right _ h))
theorem mX5_condition_2_3 : Cond.fieldLink RX5 34 "HissHorn$Tape" "length" "I" ∈ wsX5_condition := (List.mem_cons_of_mem _ (List.mem_append_left _ (List.mem_append_left _ (List.mem_append_left _ (List.mem_of_getElem? (i := 1) rfl)))))
theorem mX5_condition_2_4 : Cond.fieldLink RX5 27 "HissHorn$Parser" "at" "I" ∈ wsX5_condition := (List.mem_cons_of_mem _ (List.mem_append_left _ (List.mem_append_left _ (List.mem_append_left _ (List.mem_of_getElem? (i := 2) rfl)))))
def GX5_condition_2_103 (rc : Nat → Int32 → Int32 → SX → Option (Int32 × SX)) (k8 : Int32 → Int32 → Int32 → Int32 → Int32 → SX → Option (Int32 × SX)) (z1 : Int32) (z2 : Int32) (z3 : Int32) (z4 : Int32) (z5 : Int32) (u : SX) : Option (Int32 × SX) := (lt (sI u 4 ((u.1 4) + 1)) fun u11 => (k8 z1 z2 z3 z4 (z5 + 1) u11))
def GX5_condition_2_96 (rc : Nat → Int32 → Int32 → SX → Option (Int32 × SX)) (k8 : Int32 → Int32 → Int32 → Int32 → Int32 → SX → Option (Int32 × SX)) (z1 : Int32) (z2 : Int32) (z4 : Int32) (z5 : Int32) (y0 : Int32) (u : SX) : Option (Int32 × SX) := (if y0 = 0 then (gd (isB 1) (some (1, u))) else (GX5_condition_2_103 rc k8 z1 z2 y0 z4 z5 u))
def GX5_condition_2_70 (rc : Nat → Int32 → Int32 → SX → Option (Int32 × SX)) (k8 : Int32 → Int32 → Int32 → Int32 → Int32 → SX → Option (Int32 × SX)) (z1 : Int32) (z2 : Int32) (z3 : Int32) (z5 : Int32) (z6 : Int32) (y0 : Int32) (u : SX) : Option (Int32 × SX) := (if y0 = 0 then ((fX5_emit_2 z3 0 u).bind fun q => match q with | (r13, u14) => (if z6 = 124 then (GX5_condition_2_96 rc k8 z1 z2 y0 z5 z6 u14) else (GX5_condition_2_96 rc k8 z1 z2 y0 z5 0 u14))) else (GX5_condition_2_103 rc k8 z1 z2 z3 y0 z5 u))
def GX5_condition_2_36 (rc : Nat → Int32 → Int32 → SX → Option (Int32 × SX)) (k8 : Int32 → Int32 → Int32 → Int32 → Int32 → SX → Option (Int32 × SX)) (z1 : Int32) (z2 : Int32) (z3 : Int32) (z4 : Int32) (z5 : Int32) (y0 : Int32) (y1 : Int32) (u : SX) : Option (Int32 × SX) := ((rc 1 y1 y0 u).bind fun q => match q with | (r2, u3) => (if r2 = 0 then (gd (isB 0) (some (0, u3))) else ((fX5_emit_2 z4 0 u3).bind fun q => match q with | (r5, u6) => ((fX5_peek_2  u6).bind fun q => match q with | (r8, u9) => (if r8 = 38 then (GX5_condition_2_70 rc k8 z1 z2 z3 z5 r8 r8 u9) else (GX5_condition_2_70 rc k8 z1 z2 z3 z5 r8 0 u9))))))
def GX5_condition_2_35 (rc : Nat → Int32 → Int32 → SX → Option (Int32 × SX)) (k8 : Int32 → Int32 → Int32 → Int32 → Int32 → SX → Option (Int32 × SX)) (z1 : Int32) (z2 : Int32) (z3 : Int32) (z4 : Int32) (z5 : Int32) (y0 : Int32) (u : SX) : Option (Int32 × SX) := (GX5_condition_2_36 rc k8 z1 z2 z3 z4 z5 0 y0 u)
def LX5_condition_2_8 (rc : Nat → Int32 → Int32 → SX → Option (Int32 × SX))  : Nat → Int32 → Int32 → Int32 → Int32 → Int32 → SX → Option (Int32 × SX)
  | 0, _, _, _, _, _, _ => none
  | n + 1, z1, z2, z3, z4, z5, u => (if (u.1 1) < z5 then (gd (isB 0) (some (0, u))) else (if z2 = 0 then (GX5_condition_2_35 rc (LX5_condition_2_8 rc n) z1 z2 z3 z4 z5 z1 u) else (if z5 = 0 then (GX5_condition_2_36 rc (LX5_condition_2_8 rc n) z1 z2 z3 z4 z5 1 z1 u) else (GX5_condition_2_35 rc (LX5_condition_2_8 rc n) z1 z2 z3 z4 z5 z1 u))))
def fX5_condition_2 (rc : Nat → Int32 → Int32 → SX → Option (Int32 × SX)) (x1 : Int32) (x2 : Int32) (u : SX) : Option (Int32 × SX) := (LX5_condition_2_8 rc  5000 x1 x2 0 0 0 u)
set_option maxHeartbeats 4000000 in
set_option maxRecDepth 100000 in
theorem wGX5_condition_2_103 {p : Program} {l : Launch} {e : Env} {s : State} {m : MethodId} {args : Array Value} {below : List Frame} {meth : Method} {c : Code} {D : va_G} {cy : Nat → ClassId} {ad st : Nat → Nat} (C : Cx RX5 cX5_condition 7 (some .boolean) wsX5_condition p s m args meth c) (hK : Ky D [(cy 0, .int), (cy 1, .long), (cy 2, .boolean), (cy 3, .byte), (cy 4, .object "HissHorn$Text")] st s) (hJ : JX ad st) {rc : Nat → Int32 → Int32 → SX → Option (Int32 × SX)} {dd : Nat} (hrc : hRX5conditiong l D cy ad st rc dd) {r : Int32} {u' : SX} {k8 : Int32 → Int32 → Int32 → Int32 → Int32 → SX → Option (Int32 × SX)} (hk8 : ∀ (z1 : Int32) (z2 : Int32) (z3 : Int32) (z4 : Int32) (z5 : Int32) (u : SX) (H : Heap) (locs : List Loc) (ls : Array Slot), k8 z1 z2 z3 z4 z5 u = some (r, u') → va_P D vwCl (VX cy ad st u) H → va_S (Ax (AX ad) s.heap.size) s.heap H locs → lv_has ls 7 [(0, .ref (ad 2)), (1, .int z1), (2, .int z2), (3, .int z3), (4, .int z4), (5, .int z5)] → W p l e (rmX5conditiong (dd + 1)) s m args below meth c H locs 0 0 (MQ below (Qi D (VX cy ad st) (AX ad) s.heap.size r u') args s 0 0 (Ax (AX ad) s.heap.size)) (F0 m 8 ls [])) (z1 : Int32) (z2 : Int32) (z3 : Int32) (z4 : Int32) (z5 : Int32) (u : SX) (H : Heap) (locs : List Loc) (ls : Array Slot) (h : GX5_condition_2_103 rc k8 z1 z2 z3 z4 z5 u = some (r, u')) (hP : va_P D vwCl (VX cy ad st u) H) (hS : va_S (Ax (AX ad) s.heap.size) s.heap H locs) (hl : lv_has ls 7 [(0, .ref (ad 2)), (1, .int z1), (2, .int z2), (3, .int z3), (4, .int z4), (5, .int z5)]) : W p l e (rmX5conditiong (dd + 1)) s m args below meth c H locs 0 0 (MQ below (Qi D (VX cy ad st) (AX ad) s.heap.size r u') args s 0 0 (Ax (AX ad) s.heap.size)) (F0 m 103 ls []) := by
  unfold GX5_condition_2_103 at h
  refine lv_aload_n C.1 C.2.1 dX5_condition_103 rfl (lv_at hl 0 rfl) ?_
  refine lv_dup C.1 C.2.1 dX5_condition_104 rfl ?_
  refine gX_2_at C hX5_condition_2_X5 hK hP mX5_condition_2_4 dX5_condition_105 ?_
  refine lv_iconst (v := 1) C.1 C.2.1 dX5_condition_108 (by decide) ?_
  refine lv_iadd C.1 C.2.1 dX5_condition_109 ?_
  refine pX_2_at C hX5_condition_2_X5 hK hP hJ hS mX5_condition_2_4 dX5_condition_110 (fun H locs hP hS => ?_)
  obtain ⟨u11, hu12, h⟩ := lt_some h
  rw [← hu12] at hP
  refine lv_iinc (v := z5 + 1) (lv' := [(5, .int (z5 + 1)), (0, .ref (ad 2)), (1, .int z1), (2, .int z2), (3, .int z3), (4, .int z4)]) C.1 C.2.1 dX5_condition_113 hl (k := 5) rfl rfl (by decide) rfl (fun ls hl => ?_)
  replace hl := lv_sub (l' := [(0, .ref (ad 2)), (1, .int z1), (2, .int z2), (3, .int z3), (4, .int z4), (5, .int (z5 + 1))]) hl [1, 2, 3, 4, 5, 0] rfl
  refine lv_goto (tgt := 8) C.1 C.2.1 dX5_condition_116 (by decide) ?_
  exact hk8 _ _ _ _ _ _ _ _ _ h hP hS hl
set_option maxHeartbeats 4000000 in
set_option maxRecDepth 100000 in
theorem wGX5_condition_2_96 {p : Program} {l : Launch} {e : Env} {s : State} {m : MethodId} {args : Array Value} {below : List Frame} {meth : Method} {c : Code} {D : va_G} {cy : Nat → ClassId} {ad st : Nat → Nat} (C : Cx RX5 cX5_condition 7 (some .boolean) wsX5_condition p s m args meth c) (hK : Ky D [(cy 0, .int), (cy 1, .long), (cy 2, .boolean), (cy 3, .byte), (cy 4, .object "HissHorn$Text")] st s) (hJ : JX ad st) {rc : Nat → Int32 → Int32 → SX → Option (Int32 × SX)} {dd : Nat} (hrc : hRX5conditiong l D cy ad st rc dd) {r : Int32} {u' : SX} {k8 : Int32 → Int32 → Int32 → Int32 → Int32 → SX → Option (Int32 × SX)} (hk8 : ∀ (z1 : Int32) (z2 : Int32) (z3 : Int32) (z4 : Int32) (z5 : Int32) (u : SX) (H : Heap) (locs : List Loc) (ls : Array Slot), k8 z1 z2 z3 z4 z5 u = some (r, u') → va_P D vwCl (VX cy ad st u) H → va_S (Ax (AX ad) s.heap.size) s.heap H locs → lv_has ls 7 [(0, .ref (ad 2)), (1, .int z1), (2, .int z2), (3, .int z3), (4, .int z4), (5, .int z5)] → W p l e (rmX5conditiong (dd + 1)) s m args below meth c H locs 0 0 (MQ below (Qi D (VX cy ad st) (AX ad) s.heap.size r u') args s 0 0 (Ax (AX ad) s.heap.size)) (F0 m 8 ls [])) (z1 : Int32) (z2 : Int32) (z4 : Int32) (z5 : Int32) (y0 : Int32) (u : SX) (H : Heap) (locs : List Loc) (ls : Array Slot) (h : GX5_condition_2_96 rc k8 z1 z2 z4 z5 y0 u = some (r, u')) (hP : va_P D vwCl (VX cy ad st u) H) (hS : va_S (Ax (AX ad) s.heap.size) s.heap H locs) (hl : lv_has ls 7 [(0, .ref (ad 2)), (1, .int z1), (2, .int z2), (4, .int z4), (5, .int z5)]) : W p l e (rmX5conditiong (dd + 1)) s m args below meth c H locs 0 0 (MQ below (Qi D (VX cy ad st) (AX ad) s.heap.size r u') args s 0 0 (Ax (AX ad) s.heap.size)) (F0 m 96 ls [.int y0]) := by
  unfold GX5_condition_2_96 at h
  refine lv_istore_n (lv' := [(3, .int y0), (0, .ref (ad 2)), (1, .int z1), (2, .int z2), (4, .int z4), (5, .int z5)]) C.1 C.2.1 dX5_condition_96 rfl hl (by decide) rfl (fun ls hl => ?_)
  replace hl := lv_sub (l' := [(0, .ref (ad 2)), (1, .int z1), (2, .int z2), (3, .int y0), (4, .int z4), (5, .int z5)]) hl [1, 2, 3, 0, 4, 5] rfl
  refine lv_iload_n C.1 C.2.1 dX5_condition_97 rfl (lv_at hl 3 rfl) ?_
  refine lv_if_ne (tgt := 103) C.1 C.2.1 dX5_condition_98 (by decide) (fun c98 => ?_) (fun c98 => ?_)
  · rw [if_neg c98] at h
    exact wGX5_condition_2_103 C hK hJ hrc hk8 _ _ _ _ _ _ _ _ _ h hP hS hl
  · rw [if_pos c98] at h
    refine lv_iconst (v := 1) C.1 C.2.1 dX5_condition_101 (by decide) ?_
    obtain ⟨hg16, h⟩ := gd_some h
    cases h
    exact rt_z hg16 C hP hS dX5_condition_102
set_option maxHeartbeats 4000000 in
set_option maxRecDepth 100000 in
theorem wGX5_condition_2_70 {p : Program} {l : Launch} {e : Env} {s : State} {m : MethodId} {args : Array Value} {below : List Frame} {meth : Method} {c : Code} {D : va_G} {cy : Nat → ClassId} {ad st : Nat → Nat} (C : Cx RX5 cX5_condition 7 (some .boolean) wsX5_condition p s m args meth c) (hK : Ky D [(cy 0, .int), (cy 1, .long), (cy 2, .boolean), (cy 3, .byte), (cy 4, .object "HissHorn$Text")] st s) (hJ : JX ad st) {rc : Nat → Int32 → Int32 → SX → Option (Int32 × SX)} {dd : Nat} (hrc : hRX5conditiong l D cy ad st rc dd) {r : Int32} {u' : SX} {k8 : Int32 → Int32 → Int32 → Int32 → Int32 → SX → Option (Int32 × SX)} (hk8 : ∀ (z1 : Int32) (z2 : Int32) (z3 : Int32) (z4 : Int32) (z5 : Int32) (u : SX) (H : Heap) (locs : List Loc) (ls : Array Slot), k8 z1 z2 z3 z4 z5 u = some (r, u') → va_P D vwCl (VX cy ad st u) H → va_S (Ax (AX ad) s.heap.size) s.heap H locs → lv_has ls 7 [(0, .ref (ad 2)), (1, .int z1), (2, .int z2), (3, .int z3), (4, .int z4), (5, .int z5)] → W p l e (rmX5conditiong (dd + 1)) s m args below meth c H locs 0 0 (MQ below (Qi D (VX cy ad st) (AX ad) s.heap.size r u') args s 0 0 (Ax (AX ad) s.heap.size)) (F0 m 8 ls [])) (z1 : Int32) (z2 : Int32) (z3 : Int32) (z5 : Int32) (z6 : Int32) (y0 : Int32) (u : SX) (H : Heap) (locs : List Loc) (ls : Array Slot) (h : GX5_condition_2_70 rc k8 z1 z2 z3 z5 z6 y0 u = some (r, u')) (hP : va_P D vwCl (VX cy ad st u) H) (hS : va_S (Ax (AX ad) s.heap.size) s.heap H locs) (hl : lv_has ls 7 [(0, .ref (ad 2)), (1, .int z1), (2, .int z2), (3, .int z3), (5, .int z5), (6, .int z6)]) : W p l e (rmX5conditiong (dd + 1)) s m args below meth c H locs 0 0 (MQ below (Qi D (VX cy ad st) (AX ad) s.heap.size r u') args s 0 0 (Ax (AX ad) s.heap.size)) (F0 m 70 ls [.int y0]) := by
  unfold GX5_condition_2_70 at h
  refine lv_istore (lv' := [(4, .int y0), (0, .ref (ad 2)), (1, .int z1), (2, .int z2), (3, .int z3), (5, .int z5), (6, .int z6)]) C.1 C.2.1 dX5_condition_70 hl (by decide) rfl (fun ls hl => ?_)
  replace hl := lv_sub (l' := [(0, .ref (ad 2)), (1, .int z1), (2, .int z2), (3, .int z3), (4, .int y0), (5, .int z5), (6, .int z6)]) hl [1, 2, 3, 4, 0, 5, 6] rfl
  refine lv_iload C.1 C.2.1 dX5_condition_72 (lv_at hl 4 rfl) ?_
  refine lv_if_ne (tgt := 103) C.1 C.2.1 dX5_condition_74 (by decide) (fun c74 => ?_) (fun c74 => ?_)
  · rw [if_neg c74] at h
    exact wGX5_condition_2_103 C hK hJ hrc hk8 _ _ _ _ _ _ _ _ _ h hP hS (lv_sub hl [0, 1, 2, 3, 4, 5] rfl)
  · rw [if_pos c74] at h
    refine lv_aload_n C.1 C.2.1 dX5_condition_77 rfl (lv_at hl 0 rfl) ?_
    refine lv_iload_n C.1 C.2.1 dX5_condition_78 rfl (lv_at hl 3 rfl) ?_
    refine lv_iconst (v := 0) C.1 C.2.1 dX5_condition_79 (by decide) ?_
    obtain ⟨⟨r13, u14⟩, hc15, h⟩ := bd_some h
    try dsimp only at h
    refine cg_v (As := [.int z3, .int 0]) (rest := []) (AX_ge hJ) C hK hP hS (metX5_emit_2 l D cy ad st hJ _ z3 0 hc15) (cwV 2 C.2.2.2.2.2.1 gX5_condition_X5_emit rfl rfl rfl (by decide +kernel) ⟨(Nat.le_trans (m := 4) (Nat.le_of_ble_eq_true rfl) (rmX5conditiong_f _)), (Nat.le_trans (m := 91) (Nat.le_of_ble_eq_true rfl) (rmX5conditiong_l _))⟩) 2 5 rfl rfl rfl hl.1 rfl (Nat.le_of_ble_eq_true rfl) dX5_condition_80 ⟨Nat.zero_le _, Nat.zero_le _⟩ (fun H locs hP hS => ?_)
    refine lv_iload C.1 C.2.1 dX5_condition_83 (lv_at hl 6 rfl) ?_
    refine lv_bipush (v := 124) C.1 C.2.1 dX5_condition_85 (by decide) ?_
    refine lv_icmp_ne (tgt := 95) C.1 C.2.1 dX5_condition_87 (by decide) (fun c87 => ?_) (fun c87 => ?_)
    · rw [if_neg c87] at h
      refine lv_iconst (v := 0) C.1 C.2.1 dX5_condition_95 (by decide) ?_
      exact wGX5_condition_2_96 C hK hJ hrc hk8 _ _ _ _ _ _ _ _ _ h hP hS (lv_sub hl [0, 1, 2, 4, 5] rfl)
    · rw [if_pos c87] at h
      refine lv_iload C.1 C.2.1 dX5_condition_90 (lv_at hl 6 rfl) ?_
      refine lv_goto (tgt := 96) C.1 C.2.1 dX5_condition_92 (by decide) ?_
      exact wGX5_condition_2_96 C hK hJ hrc hk8 _ _ _ _ _ _ _ _ _ h hP hS (lv_sub hl [0, 1, 2, 4, 5] rfl)
set_option maxHeartbeats 4000000 in
set_option maxRecDepth 100000 in
theorem wGX5_condition_2_36 {p : Program} {l : Launch} {e : Env} {s : State} {m : MethodId} {args : Array Value} {below : List Frame} {meth : Method} {c : Code} {D : va_G} {cy : Nat → ClassId} {ad st : Nat → Nat} (C : Cx RX5 cX5_condition 7 (some .boolean) wsX5_condition p s m args meth c) (hK : Ky D [(cy 0, .int), (cy 1, .long), (cy 2, .boolean), (cy 3, .byte), (cy 4, .object "HissHorn$Text")] st s) (hJ : JX ad st) {rc : Nat → Int32 → Int32 → SX → Option (Int32 × SX)} {dd : Nat} (hrc : hRX5conditiong l D cy ad st rc dd) {r : Int32} {u' : SX} {k8 : Int32 → Int32 → Int32 → Int32 → Int32 → SX → Option (Int32 × SX)} (hk8 : ∀ (z1 : Int32) (z2 : Int32) (z3 : Int32) (z4 : Int32) (z5 : Int32) (u : SX) (H : Heap) (locs : List Loc) (ls : Array Slot), k8 z1 z2 z3 z4 z5 u = some (r, u') → va_P D vwCl (VX cy ad st u) H → va_S (Ax (AX ad) s.heap.size) s.heap H locs → lv_has ls 7 [(0, .ref (ad 2)), (1, .int z1), (2, .int z2), (3, .int z3), (4, .int z4), (5, .int z5)] → W p l e (rmX5conditiong (dd + 1)) s m args below meth c H locs 0 0 (MQ below (Qi D (VX cy ad st) (AX ad) s.heap.size r u') args s 0 0 (Ax (AX ad) s.heap.size)) (F0 m 8 ls [])) (z1 : Int32) (z2 : Int32) (z3 : Int32) (z4 : Int32) (z5 : Int32) (y0 : Int32) (y1 : Int32) (u : SX) (H : Heap) (locs : List Loc) (ls : Array Slot) (h : GX5_condition_2_36 rc k8 z1 z2 z3 z4 z5 y0 y1 u = some (r, u')) (hP : va_P D vwCl (VX cy ad st u) H) (hS : va_S (Ax (AX ad) s.heap.size) s.heap H locs) (hl : lv_has ls 7 [(0, .ref (ad 2)), (1, .int z1), (2, .int z2), (3, .int z3), (4, .int z4), (5, .int z5)]) : W p l e (rmX5conditiong (dd + 1)) s m args below meth c H locs 0 0 (MQ below (Qi D (VX cy ad st) (AX ad) s.heap.size r u') args s 0 0 (Ax (AX ad) s.heap.size)) (F0 m 36 ls [.int y0, .int y1, .ref (ad 2)]) := by
  unfold GX5_condition_2_36 at h
  obtain ⟨⟨r2, u3⟩, hc4, h⟩ := bd_some h
  try dsimp only at h
  refine cg_i (As := [.int y1, .int y0]) (rest := []) (AX_ge hJ) C hK hP hS (hrc.2.1 _ y1 y0 _ _ _ hc4) (cwV 2 C.2.2.2.2.2.1 gX5_condition_X5_unit rfl rfl rfl (by decide +kernel) ⟨rmX5conditiong_sf dd, rmX5conditiong_sl dd (k := 8 + (6 + 11)) (Nat.le_of_ble_eq_true rfl)⟩) 2 5 rfl rfl rfl hl.1 rfl (Nat.le_of_ble_eq_true rfl) dX5_condition_36 ⟨Nat.zero_le _, Nat.zero_le _⟩ (fun H locs hP hS => ?_)
  refine lv_if_ne (tgt := 44) C.1 C.2.1 dX5_condition_39 (by decide) (fun c39 => ?_) (fun c39 => ?_)
  · rw [if_neg c39] at h
    refine lv_aload_n C.1 C.2.1 dX5_condition_44 rfl (lv_at hl 0 rfl) ?_
    refine lv_iload C.1 C.2.1 dX5_condition_45 (lv_at hl 4 rfl) ?_
    refine lv_iconst (v := 0) C.1 C.2.1 dX5_condition_47 (by decide) ?_
    obtain ⟨⟨r5, u6⟩, hc7, h⟩ := bd_some h
    try dsimp only at h
    refine cg_v (As := [.int z4, .int 0]) (rest := []) (AX_ge hJ) C hK hP hS (metX5_emit_2 l D cy ad st hJ _ z4 0 hc7) (cwV 2 C.2.2.2.2.2.1 gX5_condition_X5_emit rfl rfl rfl (by decide +kernel) ⟨(Nat.le_trans (m := 4) (Nat.le_of_ble_eq_true rfl) (rmX5conditiong_f _)), (Nat.le_trans (m := 91) (Nat.le_of_ble_eq_true rfl) (rmX5conditiong_l _))⟩) 2 5 rfl rfl rfl hl.1 rfl (Nat.le_of_ble_eq_true rfl) dX5_condition_48 ⟨Nat.zero_le _, Nat.zero_le _⟩ (fun H locs hP hS => ?_)
    refine lv_aload_n C.1 C.2.1 dX5_condition_51 rfl (lv_at hl 0 rfl) ?_
    obtain ⟨⟨r8, u9⟩, hc10, h⟩ := bd_some h
    try dsimp only at h
    refine cg_i (As := []) (rest := []) (AX_ge hJ) C hK hP hS (metX5_peek_2 l D cy ad st hJ _  hc10) (cwV 0 C.2.2.2.2.2.1 gX5_condition_X5_peek rfl rfl rfl (by decide +kernel) ⟨(Nat.le_trans (m := 4) (Nat.le_of_ble_eq_true rfl) (rmX5conditiong_f _)), (Nat.le_trans (m := 91) (Nat.le_of_ble_eq_true rfl) (rmX5conditiong_l _))⟩) 2 5 rfl rfl rfl hl.1 rfl (Nat.le_of_ble_eq_true rfl) dX5_condition_52 ⟨Nat.zero_le _, Nat.zero_le _⟩ (fun H locs hP hS => ?_)
    refine lv_istore (lv' := [(6, .int r8), (0, .ref (ad 2)), (1, .int z1), (2, .int z2), (3, .int z3), (4, .int z4), (5, .int z5)]) C.1 C.2.1 dX5_condition_55 hl (by decide) rfl (fun ls hl => ?_)
    replace hl := lv_sub (l' := [(0, .ref (ad 2)), (1, .int z1), (2, .int z2), (3, .int z3), (4, .int z4), (5, .int z5), (6, .int r8)]) hl [1, 2, 3, 4, 5, 6, 0] rfl
    refine lv_iload C.1 C.2.1 dX5_condition_57 (lv_at hl 6 rfl) ?_
    refine lv_bipush (v := 38) C.1 C.2.1 dX5_condition_59 (by decide) ?_
    refine lv_icmp_ne (tgt := 69) C.1 C.2.1 dX5_condition_61 (by decide) (fun c61 => ?_) (fun c61 => ?_)
    · rw [if_neg c61] at h
      refine lv_iconst (v := 0) C.1 C.2.1 dX5_condition_69 (by decide) ?_
      exact wGX5_condition_2_70 C hK hJ hrc hk8 _ _ _ _ _ _ _ _ _ _ h hP hS (lv_sub hl [0, 1, 2, 3, 5, 6] rfl)
    · rw [if_pos c61] at h
      refine lv_iload C.1 C.2.1 dX5_condition_64 (lv_at hl 6 rfl) ?_
      refine lv_goto (tgt := 70) C.1 C.2.1 dX5_condition_66 (by decide) ?_
      exact wGX5_condition_2_70 C hK hJ hrc hk8 _ _ _ _ _ _ _ _ _ _ h hP hS (lv_sub hl [0, 1, 2, 3, 5, 6] rfl)
  · rw [if_pos c39] at h
    refine lv_iconst (v := 0) C.1 C.2.1 dX5_condition_42 (by decide) ?_
    obtain ⟨hg17, h⟩ := gd_some h
    cases h
    exact rt_z hg17 C hP hS dX5_condition_43
set_option maxHeartbeats 4000000 in
set_option maxRecDepth 100000 in
theorem wGX5_condition_2_35 {p : Program} {l : Launch} {e : Env} {s : State} {m : MethodId} {args : Array Value} {below : List Frame} {meth : Method} {c : Code} {D : va_G} {cy : Nat → ClassId} {ad st : Nat → Nat} (C : Cx RX5 cX5_condition 7 (some .boolean) wsX5_condition p s m args meth c) (hK : Ky D [(cy 0, .int), (cy 1, .long), (cy 2, .boolean), (cy 3, .byte), (cy 4, .object "HissHorn$Text")] st s) (hJ : JX ad st) {rc : Nat → Int32 → Int32 → SX → Option (Int32 × SX)} {dd : Nat} (hrc : hRX5conditiong l D cy ad st rc dd) {r : Int32} {u' : SX} {k8 : Int32 → Int32 → Int32 → Int32 → Int32 → SX → Option (Int32 × SX)} (hk8 : ∀ (z1 : Int32) (z2 : Int32) (z3 : Int32) (z4 : Int32) (z5 : Int32) (u : SX) (H : Heap) (locs : List Loc) (ls : Array Slot), k8 z1 z2 z3 z4 z5 u = some (r, u') → va_P D vwCl (VX cy ad st u) H → va_S (Ax (AX ad) s.heap.size) s.heap H locs → lv_has ls 7 [(0, .ref (ad 2)), (1, .int z1), (2, .int z2), (3, .int z3), (4, .int z4), (5, .int z5)] → W p l e (rmX5conditiong (dd + 1)) s m args below meth c H locs 0 0 (MQ below (Qi D (VX cy ad st) (AX ad) s.heap.size r u') args s 0 0 (Ax (AX ad) s.heap.size)) (F0 m 8 ls [])) (z1 : Int32) (z2 : Int32) (z3 : Int32) (z4 : Int32) (z5 : Int32) (y0 : Int32) (u : SX) (H : Heap) (locs : List Loc) (ls : Array Slot) (h : GX5_condition_2_35 rc k8 z1 z2 z3 z4 z5 y0 u = some (r, u')) (hP : va_P D vwCl (VX cy ad st u) H) (hS : va_S (Ax (AX ad) s.heap.size) s.heap H locs) (hl : lv_has ls 7 [(0, .ref (ad 2)), (1, .int z1), (2, .int z2), (3, .int z3), (4, .int z4), (5, .int z5)]) : W p l e (rmX5conditiong (dd + 1)) s m args below meth c H locs 0 0 (MQ below (Qi D (VX cy ad st) (AX ad) s.heap.size r u') args s 0 0 (Ax (AX ad) s.heap.size)) (F0 m 35 ls [.int y0, .ref (ad 2)]) := by
  unfold GX5_condition_2_35 at h
  refine lv_iconst (v := 0) C.1 C.2.1 dX5_condition_35 (by decide) ?_
  exact wGX5_condition_2_36 C hK hJ hrc hk8 _ _ _ _ _ _ _ _ _ _ _ h hP hS hl
set_option maxHeartbeats 4000000 in
set_option maxRecDepth 100000 in
theorem wLX5_condition_2_8 {p : Program} {l : Launch} {e : Env} {s : State} {m : MethodId} {args : Array Value} {below : List Frame} {meth : Method} {c : Code} {D : va_G} {cy : Nat → ClassId} {ad st : Nat → Nat} (C : Cx RX5 cX5_condition 7 (some .boolean) wsX5_condition p s m args meth c) (hK : Ky D [(cy 0, .int), (cy 1, .long), (cy 2, .boolean), (cy 3, .byte), (cy 4, .object "HissHorn$Text")] st s) (hJ : JX ad st) {rc : Nat → Int32 → Int32 → SX → Option (Int32 × SX)} {dd : Nat} (hrc : hRX5conditiong l D cy ad st rc dd) {r : Int32} {u' : SX}   : ∀ (n : Nat) (z1 : Int32) (z2 : Int32) (z3 : Int32) (z4 : Int32) (z5 : Int32) (u : SX) (H : Heap) (locs : List Loc) (ls : Array Slot), LX5_condition_2_8 rc  n z1 z2 z3 z4 z5 u = some (r, u') → va_P D vwCl (VX cy ad st u) H → va_S (Ax (AX ad) s.heap.size) s.heap H locs → lv_has ls 7 [(0, .ref (ad 2)), (1, .int z1), (2, .int z2), (3, .int z3), (4, .int z4), (5, .int z5)] → W p l e (rmX5conditiong (dd + 1)) s m args below meth c H locs 0 0 (MQ below (Qi D (VX cy ad st) (AX ad) s.heap.size r u') args s 0 0 (Ax (AX ad) s.heap.size)) (F0 m 8 ls []) := by
  intro n
  induction n with
  | zero =>
    intro z1 z2 z3 z4 z5 u H locs ls h
    exact absurd h (by intro q; cases q)
  | succ n ih =>
    intro z1 z2 z3 z4 z5 u H locs ls h hP hS hl
    rw [LX5_condition_2_8] at h
    refine lv_iload C.1 C.2.1 dX5_condition_8 (lv_at hl 5 rfl) ?_
    refine lv_aload_n C.1 C.2.1 dX5_condition_10 rfl (lv_at hl 0 rfl) ?_
    refine gX_2_tape C hX5_condition_2_X5 hK hP mX5_condition_2_1 dX5_condition_11 ?_
    refine gX_1_length C hX5_condition_2_X9 hK hP mX5_condition_2_3 dX5_condition_14 ?_
    refine lv_icmp_gt (tgt := 119) C.1 C.2.1 dX5_condition_17 (by decide) (fun c17 => ?_) (fun c17 => ?_)
    · rw [if_pos c17] at h
      refine lv_iconst (v := 0) C.1 C.2.1 dX5_condition_119 (by decide) ?_
      obtain ⟨hg1, h⟩ := gd_some h
      cases h
      exact rt_z hg1 C hP hS dX5_condition_120
    · rw [if_neg c17] at h
      refine lv_aload_n C.1 C.2.1 dX5_condition_20 rfl (lv_at hl 0 rfl) ?_
      refine lv_iload_n C.1 C.2.1 dX5_condition_21 rfl (lv_at hl 1 rfl) ?_
      refine lv_iload_n C.1 C.2.1 dX5_condition_22 rfl (lv_at hl 2 rfl) ?_
      refine lv_if_eq (tgt := 35) C.1 C.2.1 dX5_condition_23 (by decide) (fun c23 => ?_) (fun c23 => ?_)
      · rw [if_pos c23] at h
        exact wGX5_condition_2_35 C hK hJ hrc ih _ _ _ _ _ _ _ _ _ _ h hP hS hl
      · rw [if_neg c23] at h
        refine lv_iload C.1 C.2.1 dX5_condition_26 (lv_at hl 5 rfl) ?_
        refine lv_if_ne (tgt := 35) C.1 C.2.1 dX5_condition_28 (by decide) (fun c28 => ?_) (fun c28 => ?_)
        · rw [if_neg c28] at h
          exact wGX5_condition_2_35 C hK hJ hrc ih _ _ _ _ _ _ _ _ _ _ h hP hS hl
        · rw [if_pos c28] at h
          refine lv_iconst (v := 1) C.1 C.2.1 dX5_condition_31 (by decide) ?_
          refine lv_goto (tgt := 36) C.1 C.2.1 dX5_condition_32 (by decide) ?_
          exact wGX5_condition_2_36 C hK hJ hrc ih _ _ _ _ _ _ _ _ _ _ _ h hP hS hl
set_option maxHeartbeats 4000000 in
set_option maxRecDepth 100000 in
theorem wX5_condition_2 {p : Program} {l : Launch} {e : Env} {s : State} {m : MethodId} {args : Array Value} {below : List Frame} {meth : Method} {c : Code} {D : va_G} {cy : Nat → ClassId} {ad st : Nat → Nat} (C : Cx RX5 cX5_condition 7 (some .boolean) wsX5_condition p s m args meth c) (hK : Ky D [(cy 0, .int), (cy 1, .long), (cy 2, .boolean), (cy 3, .byte), (cy 4, .object "HissHorn$Text")] st s) (hJ : JX ad st) {rc : Nat → Int32 → Int32 → SX → Option (Int32 × SX)} {dd : Nat} (hrc : hRX5conditiong l D cy ad st rc dd) (x1 : Int32) (x2 : Int32) {u : SX} {r : Int32} {u' : SX} {H : Heap} {locs : List Loc} {ls : Array Slot} (h : fX5_condition_2 rc x1 x2 u = some (r, u')) (hP : va_P D vwCl (VX cy ad st u) H) (hS : va_S (Ax (AX ad) s.heap.size) s.heap H locs) (hl : lv_has ls 7 [(0, .ref (ad 2)), (1, .int x1), (2, .int x2)]) : W p l e (rmX5conditiong (dd + 1)) s m args below meth c H locs 0 0 (MQ below (Qi D (VX cy ad st) (AX ad) s.heap.size r u') args s 0 0 (Ax (AX ad) s.heap.size)) (F0 m 0 ls []) := by
  unfold fX5_condition_2 at h
  refine lv_iconst (v := 0) C.1 C.2.1 dX5_condition_0 (by decide) ?_
  refine lv_istore_n (lv' := [(3, .int 0), (0, .ref (ad 2)), (1, .int x1), (2, .int x2)]) C.1 C.2.1 dX5_condition_1 rfl hl (by decide) rfl (fun ls hl => ?_)
  replace hl := lv_sub (l' := [(0, .ref (ad 2)), (1, .int x1), (2, .int x2), (3, .int 0)]) hl [1, 2, 3, 0] rfl
  refine lv_iconst (v := 0) C.1 C.2.1 dX5_condition_2 (by decide) ?_
  refine lv_istore (lv' := [(4, .int 0), (0, .ref (ad 2)), (1, .int x1), (2, .int x2), (3, .int 0)]) C.1 C.2.1 dX5_condition_3 hl (by decide) rfl (fun ls hl => ?_)
  replace hl := lv_sub (l' := [(0, .ref (ad 2)), (1, .int x1), (2, .int x2), (3, .int 0), (4, .int 0)]) hl [1, 2, 3, 4, 0] rfl
  refine lv_iconst (v := 0) C.1 C.2.1 dX5_condition_5 (by decide) ?_
  refine lv_istore (lv' := [(5, .int 0), (0, .ref (ad 2)), (1, .int x1), (2, .int x2), (3, .int 0), (4, .int 0)]) C.1 C.2.1 dX5_condition_6 hl (by decide) rfl (fun ls hl => ?_)
  replace hl := lv_sub (l' := [(0, .ref (ad 2)), (1, .int x1), (2, .int x2), (3, .int 0), (4, .int 0), (5, .int 0)]) hl [1, 2, 3, 4, 5, 0] rfl
  exact wLX5_condition_2_8 C hK hJ hrc  5000 _ _ _ _ _ _ _ _ _ h hP hS hl
theorem metX5_condition_2 (l : Launch) (D : va_G) (cy : Nat → ClassId) (ad st : Nat → Nat) (hJ : JX ad st) {rc : Nat → Int32 → Int32 → SX → Option (Int32 × SX)} {dd : Nat} (hrc : hRX5conditiong l D cy ad st rc dd) (sz : Nat) (x1 : Int32) (x2 : Int32) {u : SX} {r : Int32} {u' : SX} (h : fX5_condition_2 rc x1 x2 u = some (r, u')) : Met l yX5_condition wsX5_condition (rmX5conditiong (dd + 1)) (va_Pc [.ref (ad 2), .int x1, .int x2] (Px D [(cy 0, .int), (cy 1, .long), (cy 2, .boolean), (cy 3, .byte), (cy 4, .object "HissHorn$Text")] st (VX cy ad st) sz u)) (Qi D (VX cy ad st) (AX ad) sz r u') 0 0 (Ax (AX ad) sz) := by
  refine Met.ofW (cc := cX5_condition) (maxL := 7) (ret := (some .boolean)) (by decide) rfl ?_
  intro p e s m args below meth c s₁ B hml hv
  obtain ⟨rfl, hsz, hP, hK⟩ := hv
  subst hsz
  have C : Cx RX5 cX5_condition 7 (some .boolean) wsX5_condition p s m _ meth c := ⟨B.exec, B.bytes, hml, B.returns, findClass_of_methodNamed B.named, atoms_spec (ws := wsX5_condition) B.pre, B.notSynchronized⟩
  have hl := lv_entry ([.ref (ad 2), .int x1, .int x2]) (n := 7) (Nat.le_of_ble_eq_true rfl)
  rw [lg_entry_eq]
  exact wX5_condition_2 C hK hJ hrc x1 x2 h hP va_S.rf hl

theorem zdX5_unit_116 : (and (and (and (and (and (zk cX5_unit 116 (.aload_n 0) 1) (zk cX5_unit 117 (.invokevirtual 45) 3)) (and (zk cX5_unit 120 (.istore 4) 2) (zk cX5_unit 122 (.iload 4) 2))) (and (and (zk cX5_unit 124 (.invokestatic 64) 3) (zk cX5_unit 127 (.ifCond .ne 5) 3)) (and (zk cX5_unit 132 (.aload_n 0) 1) (zk cX5_unit 133 (.dup) 1)))) (and (and (and (zk cX5_unit 134 (.getfield 27) 3) (zk cX5_unit 137 (.iconst 1) 1)) (and (zk cX5_unit 138 (.iadd) 1) (zk cX5_unit 139 (.putfield 27) 3))) (and (and (zk cX5_unit 142 (.aload_n 0) 1) (zk cX5_unit 143 (.iload_n 1) 1)) (and (zk cX5_unit 144 (.invokevirtual 60) 3) (zk cX5_unit 147 (.istore 5) 2))))) (and (and (and (and (zk cX5_unit 149 (.aload_n 0) 1) (zk cX5_unit 150 (.iload 4) 2)) (and (zk cX5_unit 152 (.iconst 0) 1) (zk cX5_unit 153 (.invokevirtual 67) 3))) (and (and (zk cX5_unit 156 (.iload 5) 2) (zk cX5_unit 158 (.ireturn) 1)) (and (zk cX5_unit 130 (.iconst 0) 1) (zk cX5_unit 131 (.ireturn) 1)))) (and (and (and (zk cX5_unit 102 (.iload_n 2) 1) (zk cX5_unit 103 (.ifCond .ne 13) 3)) (and (zk cX5_unit 106 (.aload_n 0) 1) (zk cX5_unit 107 (.iload_n 1) 1))) (and (and (zk cX5_unit 108 (.invokevirtual 60) 3) (zk cX5_unit 111 (.ifCond .ne 5) 3)) (and (zk cX5_unit 114 (.iconst 0) 1) (zk cX5_unit 115 (.ireturn) 1)))))) = true := by decide +kernel
theorem dX5_unit_116 : decode cX5_unit 116 = .ok (.aload_n 0, 1) := zk_of (zk_l (zk_l (zk_l (zk_l (zk_l zdX5_unit_116)))))
theorem dX5_unit_117 : decode cX5_unit 117 = .ok (.invokevirtual 45, 3) := zk_of (zk_r (zk_l (zk_l (zk_l (zk_l zdX5_unit_116)))))
theorem dX5_unit_120 : decode cX5_unit 120 = .ok (.istore 4, 2) := zk_of (zk_l (zk_r (zk_l (zk_l (zk_l zdX5_unit_116)))))
theorem dX5_unit_122 : decode cX5_unit 122 = .ok (.iload 4, 2) := zk_of (zk_r (zk_r (zk_l (zk_l (zk_l zdX5_unit_116)))))
theorem dX5_unit_124 : decode cX5_unit 124 = .ok (.invokestatic 64, 3) := zk_of (zk_l (zk_l (zk_r (zk_l (zk_l zdX5_unit_116)))))
theorem dX5_unit_127 : decode cX5_unit 127 = .ok (.ifCond .ne 5, 3) := zk_of (zk_r (zk_l (zk_r (zk_l (zk_l zdX5_unit_116)))))
theorem dX5_unit_132 : decode cX5_unit 132 = .ok (.aload_n 0, 1) := zk_of (zk_l (zk_r (zk_r (zk_l (zk_l zdX5_unit_116)))))
theorem dX5_unit_133 : decode cX5_unit 133 = .ok (.dup, 1) := zk_of (zk_r (zk_r (zk_r (zk_l (zk_l zdX5_unit_116)))))
theorem dX5_unit_134 : decode cX5_unit 134 = .ok (.getfield 27, 3) := zk_of (zk_l (zk_l (zk_l (zk_r (zk_l zdX5_unit_116)))))
theorem dX5_unit_137 : decode cX5_unit 137 = .ok (.iconst 1, 1) := zk_of (zk_r (zk_l (zk_l (zk_r (zk_l zdX5_unit_116)))))
theorem dX5_unit_138 : decode cX5_unit 138 = .ok (.iadd, 1) := zk_of (zk_l (zk_r (zk_l (zk_r (zk_l zdX5_unit_116)))))
theorem dX5_unit_139 : decode cX5_unit 139 = .ok (.putfield 27, 3) := zk_of (zk_r (zk_r (zk_l (zk_r (zk_l zdX5_unit_116)))))
theorem dX5_unit_142 : decode cX5_unit 142 = .ok (.aload_n 0, 1) := zk_of (zk_l (zk_l (zk_r (zk_r (zk_l zdX5_unit_116)))))
theorem dX5_unit_143 : decode cX5_unit 143 = .ok (.iload_n 1, 1) := zk_of (zk_r (zk_l (zk_r (zk_r (zk_l zdX5_unit_116)))))
theorem dX5_unit_144 : decode cX5_unit 144 = .ok (.invokevirtual 60, 3) := zk_of (zk_l (zk_r (zk_r (zk_r (zk_l zdX5_unit_116)))))
theorem dX5_unit_147 : decode cX5_unit 147 = .ok (.istore 5, 2) := zk_of (zk_r (zk_r (zk_r (zk_r (zk_l zdX5_unit_116)))))
theorem dX5_unit_149 : decode cX5_unit 149 = .ok (.aload_n 0, 1) := zk_of (zk_l (zk_l (zk_l (zk_l (zk_r zdX5_unit_116)))))
theorem dX5_unit_150 : decode cX5_unit 150 = .ok (.iload 4, 2) := zk_of (zk_r (zk_l (zk_l (zk_l (zk_r zdX5_unit_116)))))
theorem dX5_unit_152 : decode cX5_unit 152 = .ok (.iconst 0, 1) := zk_of (zk_l (zk_r (zk_l (zk_l (zk_r zdX5_unit_116)))))
theorem dX5_unit_153 : decode cX5_unit 153 = .ok (.invokevirtual 67, 3) := zk_of (zk_r (zk_r (zk_l (zk_l (zk_r zdX5_unit_116)))))
theorem dX5_unit_156 : decode cX5_unit 156 = .ok (.iload 5, 2) := zk_of (zk_l (zk_l (zk_r (zk_l (zk_r zdX5_unit_116)))))
theorem dX5_unit_158 : decode cX5_unit 158 = .ok (.ireturn, 1) := zk_of (zk_r (zk_l (zk_r (zk_l (zk_r zdX5_unit_116)))))
theorem dX5_unit_130 : decode cX5_unit 130 = .ok (.iconst 0, 1) := zk_of (zk_l (zk_r (zk_r (zk_l (zk_r zdX5_unit_116)))))
theorem dX5_unit_131 : decode cX5_unit 131 = .ok (.ireturn, 1) := zk_of (zk_r (zk_r (zk_r (zk_l (zk_r zdX5_unit_116)))))
theorem dX5_unit_102 : decode cX5_unit 102 = .ok (.iload_n 2, 1) := zk_of (zk_l (zk_l (zk_l (zk_r (zk_r zdX5_unit_116)))))
theorem dX5_unit_103 : decode cX5_unit 103 = .ok (.ifCond .ne 13, 3) := zk_of (zk_r (zk_l (zk_l (zk_r (zk_r zdX5_unit_116)))))
theorem dX5_unit_106 : decode cX5_unit 106 = .ok (.aload_n 0, 1) := zk_of (zk_l (zk_r (zk_l (zk_r (zk_r zdX5_unit_116)))))
theorem dX5_unit_107 : decode cX5_unit 107 = .ok (.iload_n 1, 1) := zk_of (zk_r (zk_r (zk_l (zk_r (zk_r zdX5_unit_116)))))
theorem dX5_unit_108 : decode cX5_unit 108 = .ok (.invokevirtual 60, 3) := zk_of (zk_l (zk_l (zk_r (zk_r (zk_r zdX5_unit_116)))))
theorem dX5_unit_111 : decode cX5_unit 111 = .ok (.ifCond .ne 5, 3) := zk_of (zk_r (zk_l (zk_r (zk_r (zk_r zdX5_unit_116)))))
theorem dX5_unit_114 : decode cX5_unit 114 = .ok (.iconst 0, 1) := zk_of (zk_l (zk_r (zk_r (zk_r (zk_r zdX5_unit_116)))))
theorem dX5_unit_115 : decode cX5_unit 115 = .ok (.ireturn, 1) := zk_of (zk_r (zk_r (zk_r (zk_r (zk_r zdX5_unit_116)))))
set_option maxRecDepth 20000 in
theorem ggX5_unit_X5_peek : GoodIn wsX5_unit wsX5_peek := goodIn_r _ [6, 1, 7, 8, 9, 132, 133, 134, 135, 136, 137, 138] rfl (by decide +kernel)
set_option maxRecDepth 20000 in
theorem gX5_unit_X5_peek : GoodIn wsX5_unit (wsV RX5 45 RX5 yX5_peek wsX5_peek) := goodIn_app (goodIn_of _ (by decide +kernel)) ggX5_unit_X5_peek
set_option maxRecDepth 20000 in
theorem ggX5_unit_X5_compares : GoodIn wsX5_unit wsX5_compares := goodIn_r _ [130] rfl (by decide +kernel)
set_option maxRecDepth 20000 in
theorem gX5_unit_X5_compares : GoodIn wsX5_unit (va_wsS RX5 64 yX5_compares wsX5_compares) := goodIn_app (goodIn_of _ (by decide +kernel)) ggX5_unit_X5_compares
set_option maxRecDepth 20000 in
theorem ggX5_unit_X5_total : GoodIn wsX5_unit wsX5_total := goodIn_r _ [29, 7, 8, 1, 30, 31, 32, 5, 13, 14, 15, 16, 17, 18, 2, 3, 4, 6, 9, 33, 34, 26, 27, 28, 22, 23, 24, 25, 35, 36, 37, 38, 39, 40, 41, 42, 43, 44, 45, 46, 47, 48, 49, 50, 51, 52, 53, 54, 55, 56, 57, 58, 59, 60, 61, 62, 63, 64, 65, 66, 67, 68, 69, 70, 71, 72, 73, 74, 75, 76, 77, 78, 79, 80, 81, 82, 83, 84, 85, 86, 87, 88, 89, 90, 91, 92, 93, 94, 95, 96, 97, 98, 99, 100, 101, 102, 103, 104, 105, 106, 107, 108, 109, 110, 111, 112, 113, 114, 115, 116, 117, 118, 119, 120, 121, 122, 123, 124, 125, 126, 127, 132, 133, 134, 135, 136, 137, 138] rfl (by decide +kernel)
set_option maxRecDepth 20000 in
theorem gX5_unit_X5_total : GoodIn wsX5_unit (wsV RX5 60 RX5 yX5_total wsX5_total) := goodIn_app (goodIn_of _ (by decide +kernel)) ggX5_unit_X5_total
set_option maxRecDepth 20000 in
theorem ggX5_unit_X5_emit : GoodIn wsX5_unit wsX5_emit := goodIn_r _ [16, 17, 18, 132, 133, 134, 135, 136] rfl (by decide +kernel)
set_option maxRecDepth 20000 in
theorem gX5_unit_X5_emit : GoodIn wsX5_unit (wsV RX5 67 RX5 yX5_emit wsX5_emit) := goodIn_app (goodIn_of _ (by decide +kernel)) ggX5_unit_X5_emit
theorem zdX5_unit_50 : (and (and (and (and (and (zk cX5_unit 50 (.iload_n 2) 1) (zk cX5_unit 51 (.ifCond .ne 51) 3)) (and (zk cX5_unit 54 (.iload_n 1) 1) (zk cX5_unit 55 (.bipush 6) 2))) (and (and (zk cX5_unit 57 (.if_icmp .ge 45) 3) (zk cX5_unit 60 (.iload_n 3) 1)) (and (zk cX5_unit 61 (.bipush 40) 2) (zk cX5_unit 63 (.if_icmp .ne 39) 3)))) (and (and (and (zk cX5_unit 66 (.aload_n 0) 1) (zk cX5_unit 67 (.dup) 1)) (and (zk cX5_unit 68 (.getfield 27) 3) (zk cX5_unit 71 (.iconst 1) 1))) (and (and (zk cX5_unit 72 (.iadd) 1) (zk cX5_unit 73 (.putfield 27) 3)) (and (zk cX5_unit 76 (.aload_n 0) 1) (zk cX5_unit 77 (.iload_n 1) 1))))) (and (and (and (and (zk cX5_unit 78 (.iconst 1) 1) (zk cX5_unit 79 (.iadd) 1)) (and (zk cX5_unit 80 (.iconst 0) 1) (zk cX5_unit 81 (.invokevirtual 71) 3))) (and (and (zk cX5_unit 84 (.ifCond .eq 16) 3) (zk cX5_unit 100 (.iconst 0) 1)) (and (zk cX5_unit 101 (.ireturn) 1) (zk cX5_unit 87 (.aload_n 0) 1)))) (and (and (and (zk cX5_unit 88 (.bipush 41) 2) (zk cX5_unit 90 (.invokevirtual 41) 3)) (and (zk cX5_unit 93 (.ifCond .eq 7) 3) (zk cX5_unit 96 (.iconst 1) 1))) (and (and (zk cX5_unit 97 (.goto 4) 3) (zk cX5_unit 0 (.aload_n 0) 1)) (and (zk cX5_unit 1 (.invokevirtual 45) 3) (zk cX5_unit 4 (.istore_n 3) 1)))))) = true := by decide +kernel
theorem dX5_unit_50 : decode cX5_unit 50 = .ok (.iload_n 2, 1) := zk_of (zk_l (zk_l (zk_l (zk_l (zk_l zdX5_unit_50)))))
theorem dX5_unit_51 : decode cX5_unit 51 = .ok (.ifCond .ne 51, 3) := zk_of (zk_r (zk_l (zk_l (zk_l (zk_l zdX5_unit_50)))))
theorem dX5_unit_54 : decode cX5_unit 54 = .ok (.iload_n 1, 1) := zk_of (zk_l (zk_r (zk_l (zk_l (zk_l zdX5_unit_50)))))
theorem dX5_unit_55 : decode cX5_unit 55 = .ok (.bipush 6, 2) := zk_of (zk_r (zk_r (zk_l (zk_l (zk_l zdX5_unit_50)))))
theorem dX5_unit_57 : decode cX5_unit 57 = .ok (.if_icmp .ge 45, 3) := zk_of (zk_l (zk_l (zk_r (zk_l (zk_l zdX5_unit_50)))))
theorem dX5_unit_60 : decode cX5_unit 60 = .ok (.iload_n 3, 1) := zk_of (zk_r (zk_l (zk_r (zk_l (zk_l zdX5_unit_50)))))
theorem dX5_unit_61 : decode cX5_unit 61 = .ok (.bipush 40, 2) := zk_of (zk_l (zk_r (zk_r (zk_l (zk_l zdX5_unit_50)))))
theorem dX5_unit_63 : decode cX5_unit 63 = .ok (.if_icmp .ne 39, 3) := zk_of (zk_r (zk_r (zk_r (zk_l (zk_l zdX5_unit_50)))))
theorem dX5_unit_66 : decode cX5_unit 66 = .ok (.aload_n 0, 1) := zk_of (zk_l (zk_l (zk_l (zk_r (zk_l zdX5_unit_50)))))
theorem dX5_unit_67 : decode cX5_unit 67 = .ok (.dup, 1) := zk_of (zk_r (zk_l (zk_l (zk_r (zk_l zdX5_unit_50)))))
theorem dX5_unit_68 : decode cX5_unit 68 = .ok (.getfield 27, 3) := zk_of (zk_l (zk_r (zk_l (zk_r (zk_l zdX5_unit_50)))))
theorem dX5_unit_71 : decode cX5_unit 71 = .ok (.iconst 1, 1) := zk_of (zk_r (zk_r (zk_l (zk_r (zk_l zdX5_unit_50)))))
theorem dX5_unit_72 : decode cX5_unit 72 = .ok (.iadd, 1) := zk_of (zk_l (zk_l (zk_r (zk_r (zk_l zdX5_unit_50)))))
theorem dX5_unit_73 : decode cX5_unit 73 = .ok (.putfield 27, 3) := zk_of (zk_r (zk_l (zk_r (zk_r (zk_l zdX5_unit_50)))))
theorem dX5_unit_76 : decode cX5_unit 76 = .ok (.aload_n 0, 1) := zk_of (zk_l (zk_r (zk_r (zk_r (zk_l zdX5_unit_50)))))
theorem dX5_unit_77 : decode cX5_unit 77 = .ok (.iload_n 1, 1) := zk_of (zk_r (zk_r (zk_r (zk_r (zk_l zdX5_unit_50)))))
theorem dX5_unit_78 : decode cX5_unit 78 = .ok (.iconst 1, 1) := zk_of (zk_l (zk_l (zk_l (zk_l (zk_r zdX5_unit_50)))))
theorem dX5_unit_79 : decode cX5_unit 79 = .ok (.iadd, 1) := zk_of (zk_r (zk_l (zk_l (zk_l (zk_r zdX5_unit_50)))))
theorem dX5_unit_80 : decode cX5_unit 80 = .ok (.iconst 0, 1) := zk_of (zk_l (zk_r (zk_l (zk_l (zk_r zdX5_unit_50)))))
theorem dX5_unit_81 : decode cX5_unit 81 = .ok (.invokevirtual 71, 3) := zk_of (zk_r (zk_r (zk_l (zk_l (zk_r zdX5_unit_50)))))
theorem dX5_unit_84 : decode cX5_unit 84 = .ok (.ifCond .eq 16, 3) := zk_of (zk_l (zk_l (zk_r (zk_l (zk_r zdX5_unit_50)))))
theorem dX5_unit_100 : decode cX5_unit 100 = .ok (.iconst 0, 1) := zk_of (zk_r (zk_l (zk_r (zk_l (zk_r zdX5_unit_50)))))
theorem dX5_unit_101 : decode cX5_unit 101 = .ok (.ireturn, 1) := zk_of (zk_l (zk_r (zk_r (zk_l (zk_r zdX5_unit_50)))))
theorem dX5_unit_87 : decode cX5_unit 87 = .ok (.aload_n 0, 1) := zk_of (zk_r (zk_r (zk_r (zk_l (zk_r zdX5_unit_50)))))
theorem dX5_unit_88 : decode cX5_unit 88 = .ok (.bipush 41, 2) := zk_of (zk_l (zk_l (zk_l (zk_r (zk_r zdX5_unit_50)))))
theorem dX5_unit_90 : decode cX5_unit 90 = .ok (.invokevirtual 41, 3) := zk_of (zk_r (zk_l (zk_l (zk_r (zk_r zdX5_unit_50)))))
theorem dX5_unit_93 : decode cX5_unit 93 = .ok (.ifCond .eq 7, 3) := zk_of (zk_l (zk_r (zk_l (zk_r (zk_r zdX5_unit_50)))))
theorem dX5_unit_96 : decode cX5_unit 96 = .ok (.iconst 1, 1) := zk_of (zk_r (zk_r (zk_l (zk_r (zk_r zdX5_unit_50)))))
theorem dX5_unit_97 : decode cX5_unit 97 = .ok (.goto 4, 3) := zk_of (zk_l (zk_l (zk_r (zk_r (zk_r zdX5_unit_50)))))
theorem dX5_unit_0 : decode cX5_unit 0 = .ok (.aload_n 0, 1) := zk_of (zk_r (zk_l (zk_r (zk_r (zk_r zdX5_unit_50)))))
theorem dX5_unit_1 : decode cX5_unit 1 = .ok (.invokevirtual 45, 3) := zk_of (zk_l (zk_r (zk_r (zk_r (zk_r zdX5_unit_50)))))
theorem dX5_unit_4 : decode cX5_unit 4 = .ok (.istore_n 3, 1) := zk_of (zk_r (zk_r (zk_r (zk_r (zk_r zdX5_unit_50)))))
set_option maxRecDepth 20000 in
theorem ggX5_unit_X5_condition : GoodIn wsX5_unit wsX5_condition := goodIn_r _ [131, 7, 8, 1, 10, 11, 12, 5, 13, 14, 15, 16, 17, 18, 2, 3, 4, 6, 9, 0, 19, 20, 21, 22, 23, 24, 25, 26, 27, 28, 29, 30, 31, 32, 33, 34, 35, 36, 37, 38, 39, 40, 41, 42, 43, 44, 45, 46, 47, 48, 49, 50, 51, 52, 53, 54, 55, 56, 57, 58, 59, 60, 61, 62, 63, 64, 65, 66, 67, 68, 69, 70, 71, 72, 73, 74, 75, 76, 77, 78, 79, 80, 81, 82, 83, 84, 85, 86, 87, 88, 89, 90, 91, 92, 93, 94, 95, 96, 97, 98, 99, 100, 101, 102, 103, 104, 105, 106, 107, 108, 109, 110, 111, 112, 113, 114, 115, 116, 117, 118, 119, 120, 121, 122, 123, 124, 125, 126, 127, 128, 129, 130, 132, 133, 134, 135, 136, 137, 138] rfl (by decide +kernel)
set_option maxRecDepth 20000 in
theorem gX5_unit_X5_condition : GoodIn wsX5_unit (wsV RX5 71 RX5 yX5_condition wsX5_condition) := goodIn_app (goodIn_of _ (by decide +kernel)) ggX5_unit_X5_condition
set_option maxRecDepth 20000 in
theorem ggX5_unit_X5_takes : GoodIn wsX5_unit wsX5_takes := goodIn_r _ [25, 1, 2, 3, 4, 5, 6, 7, 8, 9, 132, 133, 134, 135, 136, 137, 138] rfl (by decide +kernel)
set_option maxRecDepth 20000 in
theorem gX5_unit_X5_takes : GoodIn wsX5_unit (wsV RX5 41 RX5 yX5_takes wsX5_takes) := goodIn_app (goodIn_of _ (by decide +kernel)) ggX5_unit_X5_takes
theorem zdX5_unit_5 : (and (and (and (and (and (zk cX5_unit 5 (.iload_n 2) 1) (zk cX5_unit 6 (.ifCond .ne 44) 3)) (and (zk cX5_unit 9 (.iload_n 1) 1) (zk cX5_unit 10 (.bipush 6) 2))) (and (and (zk cX5_unit 12 (.if_icmp .ge 38) 3) (zk cX5_unit 15 (.iload_n 3) 1)) (zk cX5_unit 16 (.bipush 33) 2))) (and (and (and (zk cX5_unit 18 (.if_icmp .ne 32) 3) (zk cX5_unit 21 (.aload_n 0) 1)) (and (zk cX5_unit 22 (.dup) 1) (zk cX5_unit 23 (.getfield 27) 3))) (and (and (zk cX5_unit 26 (.iconst 1) 1) (zk cX5_unit 27 (.iadd) 1)) (zk cX5_unit 28 (.putfield 27) 3)))) (and (and (and (and (zk cX5_unit 31 (.aload_n 0) 1) (zk cX5_unit 32 (.iload_n 1) 1)) (and (zk cX5_unit 33 (.iconst 1) 1) (zk cX5_unit 34 (.iadd) 1))) (and (and (zk cX5_unit 35 (.iconst 0) 1) (zk cX5_unit 36 (.invokevirtual 75) 3)) (zk cX5_unit 39 (.istore 4) 2))) (and (and (and (zk cX5_unit 41 (.aload_n 0) 1) (zk cX5_unit 42 (.iload_n 3) 1)) (zk cX5_unit 43 (.iconst 0) 1)) (and (and (zk cX5_unit 44 (.invokevirtual 67) 3) (zk cX5_unit 47 (.iload 4) 2)) (zk cX5_unit 49 (.ireturn) 1))))) = true := by decide +kernel
theorem dX5_unit_5 : decode cX5_unit 5 = .ok (.iload_n 2, 1) := zk_of (zk_l (zk_l (zk_l (zk_l (zk_l zdX5_unit_5)))))
theorem dX5_unit_6 : decode cX5_unit 6 = .ok (.ifCond .ne 44, 3) := zk_of (zk_r (zk_l (zk_l (zk_l (zk_l zdX5_unit_5)))))
theorem dX5_unit_9 : decode cX5_unit 9 = .ok (.iload_n 1, 1) := zk_of (zk_l (zk_r (zk_l (zk_l (zk_l zdX5_unit_5)))))
theorem dX5_unit_10 : decode cX5_unit 10 = .ok (.bipush 6, 2) := zk_of (zk_r (zk_r (zk_l (zk_l (zk_l zdX5_unit_5)))))
theorem dX5_unit_12 : decode cX5_unit 12 = .ok (.if_icmp .ge 38, 3) := zk_of (zk_l (zk_l (zk_r (zk_l (zk_l zdX5_unit_5)))))
theorem dX5_unit_15 : decode cX5_unit 15 = .ok (.iload_n 3, 1) := zk_of (zk_r (zk_l (zk_r (zk_l (zk_l zdX5_unit_5)))))
theorem dX5_unit_16 : decode cX5_unit 16 = .ok (.bipush 33, 2) := zk_of (zk_r (zk_r (zk_l (zk_l zdX5_unit_5))))
theorem dX5_unit_18 : decode cX5_unit 18 = .ok (.if_icmp .ne 32, 3) := zk_of (zk_l (zk_l (zk_l (zk_r (zk_l zdX5_unit_5)))))
theorem dX5_unit_21 : decode cX5_unit 21 = .ok (.aload_n 0, 1) := zk_of (zk_r (zk_l (zk_l (zk_r (zk_l zdX5_unit_5)))))
theorem dX5_unit_22 : decode cX5_unit 22 = .ok (.dup, 1) := zk_of (zk_l (zk_r (zk_l (zk_r (zk_l zdX5_unit_5)))))
theorem dX5_unit_23 : decode cX5_unit 23 = .ok (.getfield 27, 3) := zk_of (zk_r (zk_r (zk_l (zk_r (zk_l zdX5_unit_5)))))
theorem dX5_unit_26 : decode cX5_unit 26 = .ok (.iconst 1, 1) := zk_of (zk_l (zk_l (zk_r (zk_r (zk_l zdX5_unit_5)))))
theorem dX5_unit_27 : decode cX5_unit 27 = .ok (.iadd, 1) := zk_of (zk_r (zk_l (zk_r (zk_r (zk_l zdX5_unit_5)))))
theorem dX5_unit_28 : decode cX5_unit 28 = .ok (.putfield 27, 3) := zk_of (zk_r (zk_r (zk_r (zk_l zdX5_unit_5))))
theorem dX5_unit_31 : decode cX5_unit 31 = .ok (.aload_n 0, 1) := zk_of (zk_l (zk_l (zk_l (zk_l (zk_r zdX5_unit_5)))))
theorem dX5_unit_32 : decode cX5_unit 32 = .ok (.iload_n 1, 1) := zk_of (zk_r (zk_l (zk_l (zk_l (zk_r zdX5_unit_5)))))
theorem dX5_unit_33 : decode cX5_unit 33 = .ok (.iconst 1, 1) := zk_of (zk_l (zk_r (zk_l (zk_l (zk_r zdX5_unit_5)))))
theorem dX5_unit_34 : decode cX5_unit 34 = .ok (.iadd, 1) := zk_of (zk_r (zk_r (zk_l (zk_l (zk_r zdX5_unit_5)))))
theorem dX5_unit_35 : decode cX5_unit 35 = .ok (.iconst 0, 1) := zk_of (zk_l (zk_l (zk_r (zk_l (zk_r zdX5_unit_5)))))
theorem dX5_unit_36 : decode cX5_unit 36 = .ok (.invokevirtual 75, 3) := zk_of (zk_r (zk_l (zk_r (zk_l (zk_r zdX5_unit_5)))))
theorem dX5_unit_39 : decode cX5_unit 39 = .ok (.istore 4, 2) := zk_of (zk_r (zk_r (zk_l (zk_r zdX5_unit_5))))
theorem dX5_unit_41 : decode cX5_unit 41 = .ok (.aload_n 0, 1) := zk_of (zk_l (zk_l (zk_l (zk_r (zk_r zdX5_unit_5)))))
theorem dX5_unit_42 : decode cX5_unit 42 = .ok (.iload_n 3, 1) := zk_of (zk_r (zk_l (zk_l (zk_r (zk_r zdX5_unit_5)))))
theorem dX5_unit_43 : decode cX5_unit 43 = .ok (.iconst 0, 1) := zk_of (zk_r (zk_l (zk_r (zk_r zdX5_unit_5))))
theorem dX5_unit_44 : decode cX5_unit 44 = .ok (.invokevirtual 67, 3) := zk_of (zk_l (zk_l (zk_r (zk_r (zk_r zdX5_unit_5)))))
theorem dX5_unit_47 : decode cX5_unit 47 = .ok (.iload 4, 2) := zk_of (zk_r (zk_l (zk_r (zk_r (zk_r zdX5_unit_5)))))
theorem dX5_unit_49 : decode cX5_unit 49 = .ok (.ireturn, 1) := zk_of (zk_r (zk_r (zk_r (zk_r zdX5_unit_5))))
set_option maxRecDepth 20000 in
theorem ggX5_unit_X5_unit : GoodIn wsX5_unit wsX5_unit := goodIn_r _ [0, 1, 2, 3, 4, 5, 6, 7, 8, 9, 10, 11, 12, 13, 14, 15, 16, 17, 18, 19, 20, 21, 22, 23, 24, 25, 26, 27, 28, 29, 30, 31, 32, 33, 34, 35, 36, 37, 38, 39, 40, 41, 42, 43, 44, 45, 46, 47, 48, 49, 50, 51, 52, 53, 54, 55, 56, 57, 58, 59, 60, 61, 62, 63, 64, 65, 66, 67, 68, 69, 70, 71, 72, 73, 74, 75, 76, 77, 78, 79, 80, 81, 82, 83, 84, 85, 86, 87, 88, 89, 90, 91, 92, 93, 94, 95, 96, 97, 98, 99, 100, 101, 102, 103, 104, 105, 106, 107, 108, 109, 110, 111, 112, 113, 114, 115, 116, 117, 118, 119, 120, 121, 122, 123, 124, 125, 126, 127, 128, 129, 130, 131, 132, 133, 134, 135, 136, 137, 138] rfl (by decide +kernel)
set_option maxRecDepth 20000 in
theorem gX5_unit_X5_unit : GoodIn wsX5_unit (wsV RX5 75 RX5 yX5_unit wsX5_unit) := goodIn_app (goodIn_of _ (by decide +kernel)) ggX5_unit_X5_unit
/-- HissHorn$Parser.unit(IZ)Z of cell 2 -/
theorem hX5_unit_2_X5 : ∀ w ∈ u_ws RX5 TX5 5, w ∈ wsX5_unit := fun w h => (List.mem_cons_of_mem _ (List.mem_append_left _ (List.mem_append_right _ h)))
theorem mX5_unit_2_1 : Cond.fieldLink RX5 27 "HissHorn$Parser" "at" "I" ∈ wsX5_unit := (List.mem_cons_of_mem _ (List.mem_append_left _ (List.mem_append_left _ (List.mem_append_left _ (List.mem_of_getElem? (i := 0) rfl)))))
def GX5_unit_2_116 (rc : Nat → Int32 → Int32 → SX → Option (Int32 × SX)) (z1 : Int32) (u : SX) : Option (Int32 × SX) := ((fX5_peek_2  u).bind fun q => match q with | (r4, u5) => ((fX5_compares r4).bind fun r7 => (if r7 = 0 then (gd (isB 0) (some (0, u5))) else (lt (sI u5 4 ((u5.1 4) + 1)) fun u10 => ((rc 2 z1 0 u10).bind fun q => match q with | (r12, u13) => ((fX5_emit_2 r4 0 u13).bind fun q => match q with | (r15, u16) => (gd (isB r12) (some (r12, u16)))))))))
def GX5_unit_2_102 (rc : Nat → Int32 → Int32 → SX → Option (Int32 × SX)) (z1 : Int32) (z2 : Int32) (u : SX) : Option (Int32 × SX) := (if z2 = 0 then ((rc 2 z1 0 u).bind fun q => match q with | (r20, u21) => (if r20 = 0 then (gd (isB 0) (some (0, u21))) else (GX5_unit_2_116 rc z1 u21))) else (GX5_unit_2_116 rc z1 u))
def GX5_unit_2_50 (rc : Nat → Int32 → Int32 → SX → Option (Int32 × SX)) (z1 : Int32) (z2 : Int32) (z3 : Int32) (u : SX) : Option (Int32 × SX) := (if z2 = 0 then (if 6 ≤ z1 then (GX5_unit_2_102 rc z1 z2 u) else (if z3 = 40 then (lt (sI u 4 ((u.1 4) + 1)) fun u24 => ((rc 0 (z1 + 1) 0 u24).bind fun q => match q with | (r26, u27) => (if r26 = 0 then (gd (isB 0) (some (0, u27))) else ((fX5_takes_2 41 u27).bind fun q => match q with | (r30, u31) => (if r30 = 0 then (gd (isB 0) (some (0, u31))) else (gd (isB 1) (some (1, u31)))))))) else (GX5_unit_2_102 rc z1 z2 u))) else (GX5_unit_2_102 rc z1 z2 u))
def fX5_unit_2 (rc : Nat → Int32 → Int32 → SX → Option (Int32 × SX)) (x1 : Int32) (x2 : Int32) (u : SX) : Option (Int32 × SX) := ((fX5_peek_2  u).bind fun q => match q with | (r1, u2) => (if x2 = 0 then (if 6 ≤ x1 then (GX5_unit_2_50 rc x1 x2 r1 u2) else (if r1 = 33 then (lt (sI u2 4 ((u2.1 4) + 1)) fun u35 => ((rc 1 (x1 + 1) 0 u35).bind fun q => match q with | (r37, u38) => ((fX5_emit_2 r1 0 u38).bind fun q => match q with | (r40, u41) => (gd (isB r37) (some (r37, u41)))))) else (GX5_unit_2_50 rc x1 x2 r1 u2))) else (GX5_unit_2_50 rc x1 x2 r1 u2)))
set_option maxHeartbeats 4000000 in
set_option maxRecDepth 100000 in
theorem wGX5_unit_2_116 {p : Program} {l : Launch} {e : Env} {s : State} {m : MethodId} {args : Array Value} {below : List Frame} {meth : Method} {c : Code} {D : va_G} {cy : Nat → ClassId} {ad st : Nat → Nat} (C : Cx RX5 cX5_unit 6 (some .boolean) wsX5_unit p s m args meth c) (hK : Ky D [(cy 0, .int), (cy 1, .long), (cy 2, .boolean), (cy 3, .byte), (cy 4, .object "HissHorn$Text")] st s) (hJ : JX ad st) {rc : Nat → Int32 → Int32 → SX → Option (Int32 × SX)} {dd : Nat} (hrc : hRX5conditiong l D cy ad st rc dd) {r : Int32} {u' : SX}   (z1 : Int32) (u : SX) (H : Heap) (locs : List Loc) (ls : Array Slot) (h : GX5_unit_2_116 rc z1 u = some (r, u')) (hP : va_P D vwCl (VX cy ad st u) H) (hS : va_S (Ax (AX ad) s.heap.size) s.heap H locs) (hl : lv_has ls 6 [(0, .ref (ad 2)), (1, .int z1)]) : W p l e (rmX5conditiong (dd + 1)) s m args below meth c H locs 0 0 (MQ below (Qi D (VX cy ad st) (AX ad) s.heap.size r u') args s 0 0 (Ax (AX ad) s.heap.size)) (F0 m 116 ls []) := by
  unfold GX5_unit_2_116 at h
  refine lv_aload_n C.1 C.2.1 dX5_unit_116 rfl (lv_at hl 0 rfl) ?_
  obtain ⟨⟨r4, u5⟩, hc6, h⟩ := bd_some h
  try dsimp only at h
  refine cg_i (As := []) (rest := []) (AX_ge hJ) C hK hP hS (metX5_peek_2 l D cy ad st hJ _  hc6) (cwV 0 C.2.2.2.2.2.1 gX5_unit_X5_peek rfl rfl rfl (by decide +kernel) ⟨(Nat.le_trans (m := 4) (Nat.le_of_ble_eq_true rfl) (rmX5conditiong_f _)), (Nat.le_trans (m := 91) (Nat.le_of_ble_eq_true rfl) (rmX5conditiong_l _))⟩) 2 5 rfl rfl rfl hl.1 rfl (Nat.le_of_ble_eq_true rfl) dX5_unit_117 ⟨Nat.zero_le _, Nat.zero_le _⟩ (fun H locs hP hS => ?_)
  refine lv_istore (lv' := [(4, .int r4), (0, .ref (ad 2)), (1, .int z1)]) C.1 C.2.1 dX5_unit_120 hl (by decide) rfl (fun ls hl => ?_)
  replace hl := lv_sub (l' := [(0, .ref (ad 2)), (1, .int z1), (4, .int r4)]) hl [1, 2, 0] rfl
  refine lv_iload C.1 C.2.1 dX5_unit_122 (lv_at hl 2 rfl) ?_
  obtain ⟨r7, hc9, h⟩ := bd_some h
  refine cs_i (As := [.int r4]) (rest := []) (AX_ge hJ) C hK hP hS (metX5_compares l D cy st _ r4 hc9) (va_cwS 1 C.2.2.2.2.2.1 gX5_unit_X5_compares rfl rfl rfl (by decide +kernel) ⟨(Nat.le_trans (m := 4) (Nat.le_of_ble_eq_true rfl) (rmX5conditiong_f _)), (Nat.le_trans (m := 91) (Nat.le_of_ble_eq_true rfl) (rmX5conditiong_l _))⟩) rfl hl.1 rfl (Nat.le_of_ble_eq_true rfl) dX5_unit_124 ⟨Nat.zero_le _, Nat.zero_le _⟩ (fun H locs hP hS => ?_)
  refine lv_if_ne (tgt := 132) C.1 C.2.1 dX5_unit_127 (by decide) (fun c127 => ?_) (fun c127 => ?_)
  · rw [if_neg c127] at h
    refine lv_aload_n C.1 C.2.1 dX5_unit_132 rfl (lv_at hl 0 rfl) ?_
    refine lv_dup C.1 C.2.1 dX5_unit_133 rfl ?_
    refine gX_2_at C hX5_unit_2_X5 hK hP mX5_unit_2_1 dX5_unit_134 ?_
    refine lv_iconst (v := 1) C.1 C.2.1 dX5_unit_137 (by decide) ?_
    refine lv_iadd C.1 C.2.1 dX5_unit_138 ?_
    refine pX_2_at C hX5_unit_2_X5 hK hP hJ hS mX5_unit_2_1 dX5_unit_139 (fun H locs hP hS => ?_)
    obtain ⟨u10, hu11, h⟩ := lt_some h
    rw [← hu11] at hP
    refine lv_aload_n C.1 C.2.1 dX5_unit_142 rfl (lv_at hl 0 rfl) ?_
    refine lv_iload_n C.1 C.2.1 dX5_unit_143 rfl (lv_at hl 1 rfl) ?_
    obtain ⟨⟨r12, u13⟩, hc14, h⟩ := bd_some h
    try dsimp only at h
    refine cg_i (As := [.int z1]) (rest := []) (AX_ge hJ) C hK hP hS (hrc.2.2.1 _ z1 _ _ _ hc14) (cwV 1 C.2.2.2.2.2.1 gX5_unit_X5_total rfl rfl rfl (by decide +kernel) ⟨rmX5conditiong_sf dd, rmX5conditiong_sl dd (k := 8 + (6 + 11)) (Nat.le_of_ble_eq_true rfl)⟩) 2 5 rfl rfl rfl hl.1 rfl (Nat.le_of_ble_eq_true rfl) dX5_unit_144 ⟨Nat.zero_le _, Nat.zero_le _⟩ (fun H locs hP hS => ?_)
    refine lv_istore (lv' := [(5, .int r12), (0, .ref (ad 2)), (1, .int z1), (4, .int r4)]) C.1 C.2.1 dX5_unit_147 hl (by decide) rfl (fun ls hl => ?_)
    replace hl := lv_sub (l' := [(0, .ref (ad 2)), (1, .int z1), (4, .int r4), (5, .int r12)]) hl [1, 2, 3, 0] rfl
    refine lv_aload_n C.1 C.2.1 dX5_unit_149 rfl (lv_at hl 0 rfl) ?_
    refine lv_iload C.1 C.2.1 dX5_unit_150 (lv_at hl 2 rfl) ?_
    refine lv_iconst (v := 0) C.1 C.2.1 dX5_unit_152 (by decide) ?_
    obtain ⟨⟨r15, u16⟩, hc17, h⟩ := bd_some h
    try dsimp only at h
    refine cg_v (As := [.int r4, .int 0]) (rest := []) (AX_ge hJ) C hK hP hS (metX5_emit_2 l D cy ad st hJ _ r4 0 hc17) (cwV 2 C.2.2.2.2.2.1 gX5_unit_X5_emit rfl rfl rfl (by decide +kernel) ⟨(Nat.le_trans (m := 4) (Nat.le_of_ble_eq_true rfl) (rmX5conditiong_f _)), (Nat.le_trans (m := 91) (Nat.le_of_ble_eq_true rfl) (rmX5conditiong_l _))⟩) 2 5 rfl rfl rfl hl.1 rfl (Nat.le_of_ble_eq_true rfl) dX5_unit_153 ⟨Nat.zero_le _, Nat.zero_le _⟩ (fun H locs hP hS => ?_)
    refine lv_iload C.1 C.2.1 dX5_unit_156 (lv_at hl 3 rfl) ?_
    obtain ⟨hg18, h⟩ := gd_some h
    cases h
    exact rt_z hg18 C hP hS dX5_unit_158
  · rw [if_pos c127] at h
    refine lv_iconst (v := 0) C.1 C.2.1 dX5_unit_130 (by decide) ?_
    obtain ⟨hg19, h⟩ := gd_some h
    cases h
    exact rt_z hg19 C hP hS dX5_unit_131
set_option maxHeartbeats 4000000 in
set_option maxRecDepth 100000 in
theorem wGX5_unit_2_102 {p : Program} {l : Launch} {e : Env} {s : State} {m : MethodId} {args : Array Value} {below : List Frame} {meth : Method} {c : Code} {D : va_G} {cy : Nat → ClassId} {ad st : Nat → Nat} (C : Cx RX5 cX5_unit 6 (some .boolean) wsX5_unit p s m args meth c) (hK : Ky D [(cy 0, .int), (cy 1, .long), (cy 2, .boolean), (cy 3, .byte), (cy 4, .object "HissHorn$Text")] st s) (hJ : JX ad st) {rc : Nat → Int32 → Int32 → SX → Option (Int32 × SX)} {dd : Nat} (hrc : hRX5conditiong l D cy ad st rc dd) {r : Int32} {u' : SX}   (z1 : Int32) (z2 : Int32) (u : SX) (H : Heap) (locs : List Loc) (ls : Array Slot) (h : GX5_unit_2_102 rc z1 z2 u = some (r, u')) (hP : va_P D vwCl (VX cy ad st u) H) (hS : va_S (Ax (AX ad) s.heap.size) s.heap H locs) (hl : lv_has ls 6 [(0, .ref (ad 2)), (1, .int z1), (2, .int z2)]) : W p l e (rmX5conditiong (dd + 1)) s m args below meth c H locs 0 0 (MQ below (Qi D (VX cy ad st) (AX ad) s.heap.size r u') args s 0 0 (Ax (AX ad) s.heap.size)) (F0 m 102 ls []) := by
  unfold GX5_unit_2_102 at h
  refine lv_iload_n C.1 C.2.1 dX5_unit_102 rfl (lv_at hl 2 rfl) ?_
  refine lv_if_ne (tgt := 116) C.1 C.2.1 dX5_unit_103 (by decide) (fun c103 => ?_) (fun c103 => ?_)
  · rw [if_neg c103] at h
    exact wGX5_unit_2_116 C hK hJ hrc _ _ _ _ _ h hP hS (lv_sub hl [0, 1] rfl)
  · rw [if_pos c103] at h
    refine lv_aload_n C.1 C.2.1 dX5_unit_106 rfl (lv_at hl 0 rfl) ?_
    refine lv_iload_n C.1 C.2.1 dX5_unit_107 rfl (lv_at hl 1 rfl) ?_
    obtain ⟨⟨r20, u21⟩, hc22, h⟩ := bd_some h
    try dsimp only at h
    refine cg_i (As := [.int z1]) (rest := []) (AX_ge hJ) C hK hP hS (hrc.2.2.1 _ z1 _ _ _ hc22) (cwV 1 C.2.2.2.2.2.1 gX5_unit_X5_total rfl rfl rfl (by decide +kernel) ⟨rmX5conditiong_sf dd, rmX5conditiong_sl dd (k := 8 + (6 + 11)) (Nat.le_of_ble_eq_true rfl)⟩) 2 5 rfl rfl rfl hl.1 rfl (Nat.le_of_ble_eq_true rfl) dX5_unit_108 ⟨Nat.zero_le _, Nat.zero_le _⟩ (fun H locs hP hS => ?_)
    refine lv_if_ne (tgt := 116) C.1 C.2.1 dX5_unit_111 (by decide) (fun c111 => ?_) (fun c111 => ?_)
    · rw [if_neg c111] at h
      exact wGX5_unit_2_116 C hK hJ hrc _ _ _ _ _ h hP hS (lv_sub hl [0, 1] rfl)
    · rw [if_pos c111] at h
      refine lv_iconst (v := 0) C.1 C.2.1 dX5_unit_114 (by decide) ?_
      obtain ⟨hg23, h⟩ := gd_some h
      cases h
      exact rt_z hg23 C hP hS dX5_unit_115
set_option maxHeartbeats 4000000 in
set_option maxRecDepth 100000 in
theorem wGX5_unit_2_50 {p : Program} {l : Launch} {e : Env} {s : State} {m : MethodId} {args : Array Value} {below : List Frame} {meth : Method} {c : Code} {D : va_G} {cy : Nat → ClassId} {ad st : Nat → Nat} (C : Cx RX5 cX5_unit 6 (some .boolean) wsX5_unit p s m args meth c) (hK : Ky D [(cy 0, .int), (cy 1, .long), (cy 2, .boolean), (cy 3, .byte), (cy 4, .object "HissHorn$Text")] st s) (hJ : JX ad st) {rc : Nat → Int32 → Int32 → SX → Option (Int32 × SX)} {dd : Nat} (hrc : hRX5conditiong l D cy ad st rc dd) {r : Int32} {u' : SX}   (z1 : Int32) (z2 : Int32) (z3 : Int32) (u : SX) (H : Heap) (locs : List Loc) (ls : Array Slot) (h : GX5_unit_2_50 rc z1 z2 z3 u = some (r, u')) (hP : va_P D vwCl (VX cy ad st u) H) (hS : va_S (Ax (AX ad) s.heap.size) s.heap H locs) (hl : lv_has ls 6 [(0, .ref (ad 2)), (1, .int z1), (2, .int z2), (3, .int z3)]) : W p l e (rmX5conditiong (dd + 1)) s m args below meth c H locs 0 0 (MQ below (Qi D (VX cy ad st) (AX ad) s.heap.size r u') args s 0 0 (Ax (AX ad) s.heap.size)) (F0 m 50 ls []) := by
  unfold GX5_unit_2_50 at h
  refine lv_iload_n C.1 C.2.1 dX5_unit_50 rfl (lv_at hl 2 rfl) ?_
  refine lv_if_ne (tgt := 102) C.1 C.2.1 dX5_unit_51 (by decide) (fun c51 => ?_) (fun c51 => ?_)
  · rw [if_neg c51] at h
    exact wGX5_unit_2_102 C hK hJ hrc _ _ _ _ _ _ h hP hS (lv_sub hl [0, 1, 2] rfl)
  · rw [if_pos c51] at h
    refine lv_iload_n C.1 C.2.1 dX5_unit_54 rfl (lv_at hl 1 rfl) ?_
    refine lv_bipush (v := 6) C.1 C.2.1 dX5_unit_55 (by decide) ?_
    refine lv_icmp_ge (tgt := 102) C.1 C.2.1 dX5_unit_57 (by decide) (fun c57 => ?_) (fun c57 => ?_)
    · rw [if_pos c57] at h
      exact wGX5_unit_2_102 C hK hJ hrc _ _ _ _ _ _ h hP hS (lv_sub hl [0, 1, 2] rfl)
    · rw [if_neg c57] at h
      refine lv_iload_n C.1 C.2.1 dX5_unit_60 rfl (lv_at hl 3 rfl) ?_
      refine lv_bipush (v := 40) C.1 C.2.1 dX5_unit_61 (by decide) ?_
      refine lv_icmp_ne (tgt := 102) C.1 C.2.1 dX5_unit_63 (by decide) (fun c63 => ?_) (fun c63 => ?_)
      · rw [if_neg c63] at h
        exact wGX5_unit_2_102 C hK hJ hrc _ _ _ _ _ _ h hP hS (lv_sub hl [0, 1, 2] rfl)
      · rw [if_pos c63] at h
        refine lv_aload_n C.1 C.2.1 dX5_unit_66 rfl (lv_at hl 0 rfl) ?_
        refine lv_dup C.1 C.2.1 dX5_unit_67 rfl ?_
        refine gX_2_at C hX5_unit_2_X5 hK hP mX5_unit_2_1 dX5_unit_68 ?_
        refine lv_iconst (v := 1) C.1 C.2.1 dX5_unit_71 (by decide) ?_
        refine lv_iadd C.1 C.2.1 dX5_unit_72 ?_
        refine pX_2_at C hX5_unit_2_X5 hK hP hJ hS mX5_unit_2_1 dX5_unit_73 (fun H locs hP hS => ?_)
        obtain ⟨u24, hu25, h⟩ := lt_some h
        rw [← hu25] at hP
        refine lv_aload_n C.1 C.2.1 dX5_unit_76 rfl (lv_at hl 0 rfl) ?_
        refine lv_iload_n C.1 C.2.1 dX5_unit_77 rfl (lv_at hl 1 rfl) ?_
        refine lv_iconst (v := 1) C.1 C.2.1 dX5_unit_78 (by decide) ?_
        refine lv_iadd C.1 C.2.1 dX5_unit_79 ?_
        refine lv_iconst (v := 0) C.1 C.2.1 dX5_unit_80 (by decide) ?_
        obtain ⟨⟨r26, u27⟩, hc28, h⟩ := bd_some h
        try dsimp only at h
        refine cg_i (As := [.int (z1 + 1), .int 0]) (rest := []) (AX_ge hJ) C hK hP hS (hrc.1 _ (z1 + 1) 0 _ _ _ hc28) (cwV 2 C.2.2.2.2.2.1 gX5_unit_X5_condition rfl rfl rfl (by decide +kernel) ⟨rmX5conditiong_sf dd, rmX5conditiong_sl dd (k := 8 + (7 + 11)) (Nat.le_of_ble_eq_true rfl)⟩) 2 5 rfl rfl rfl hl.1 rfl (Nat.le_of_ble_eq_true rfl) dX5_unit_81 ⟨Nat.zero_le _, Nat.zero_le _⟩ (fun H locs hP hS => ?_)
        refine lv_if_eq (tgt := 100) C.1 C.2.1 dX5_unit_84 (by decide) (fun c84 => ?_) (fun c84 => ?_)
        · rw [if_pos c84] at h
          refine lv_iconst (v := 0) C.1 C.2.1 dX5_unit_100 (by decide) ?_
          obtain ⟨hg29, h⟩ := gd_some h
          cases h
          exact rt_z hg29 C hP hS dX5_unit_101
        · rw [if_neg c84] at h
          refine lv_aload_n C.1 C.2.1 dX5_unit_87 rfl (lv_at hl 0 rfl) ?_
          refine lv_bipush (v := 41) C.1 C.2.1 dX5_unit_88 (by decide) ?_
          obtain ⟨⟨r30, u31⟩, hc32, h⟩ := bd_some h
          try dsimp only at h
          refine cg_i (As := [.int 41]) (rest := []) (AX_ge hJ) C hK hP hS (metX5_takes_2 l D cy ad st hJ _ 41 hc32) (cwV 1 C.2.2.2.2.2.1 gX5_unit_X5_takes rfl rfl rfl (by decide +kernel) ⟨(Nat.le_trans (m := 4) (Nat.le_of_ble_eq_true rfl) (rmX5conditiong_f _)), (Nat.le_trans (m := 91) (Nat.le_of_ble_eq_true rfl) (rmX5conditiong_l _))⟩) 2 5 rfl rfl rfl hl.1 rfl (Nat.le_of_ble_eq_true rfl) dX5_unit_90 ⟨Nat.zero_le _, Nat.zero_le _⟩ (fun H locs hP hS => ?_)
          refine lv_if_eq (tgt := 100) C.1 C.2.1 dX5_unit_93 (by decide) (fun c93 => ?_) (fun c93 => ?_)
          · rw [if_pos c93] at h
            refine lv_iconst (v := 0) C.1 C.2.1 dX5_unit_100 (by decide) ?_
            obtain ⟨hg33, h⟩ := gd_some h
            cases h
            exact rt_z hg33 C hP hS dX5_unit_101
          · rw [if_neg c93] at h
            refine lv_iconst (v := 1) C.1 C.2.1 dX5_unit_96 (by decide) ?_
            refine lv_goto (tgt := 101) C.1 C.2.1 dX5_unit_97 (by decide) ?_
            obtain ⟨hg34, h⟩ := gd_some h
            cases h
            exact rt_z hg34 C hP hS dX5_unit_101
set_option maxHeartbeats 4000000 in
set_option maxRecDepth 100000 in
theorem wX5_unit_2 {p : Program} {l : Launch} {e : Env} {s : State} {m : MethodId} {args : Array Value} {below : List Frame} {meth : Method} {c : Code} {D : va_G} {cy : Nat → ClassId} {ad st : Nat → Nat} (C : Cx RX5 cX5_unit 6 (some .boolean) wsX5_unit p s m args meth c) (hK : Ky D [(cy 0, .int), (cy 1, .long), (cy 2, .boolean), (cy 3, .byte), (cy 4, .object "HissHorn$Text")] st s) (hJ : JX ad st) {rc : Nat → Int32 → Int32 → SX → Option (Int32 × SX)} {dd : Nat} (hrc : hRX5conditiong l D cy ad st rc dd) (x1 : Int32) (x2 : Int32) {u : SX} {r : Int32} {u' : SX} {H : Heap} {locs : List Loc} {ls : Array Slot} (h : fX5_unit_2 rc x1 x2 u = some (r, u')) (hP : va_P D vwCl (VX cy ad st u) H) (hS : va_S (Ax (AX ad) s.heap.size) s.heap H locs) (hl : lv_has ls 6 [(0, .ref (ad 2)), (1, .int x1), (2, .int x2)]) : W p l e (rmX5conditiong (dd + 1)) s m args below meth c H locs 0 0 (MQ below (Qi D (VX cy ad st) (AX ad) s.heap.size r u') args s 0 0 (Ax (AX ad) s.heap.size)) (F0 m 0 ls []) := by
  unfold fX5_unit_2 at h
  refine lv_aload_n C.1 C.2.1 dX5_unit_0 rfl (lv_at hl 0 rfl) ?_
  obtain ⟨⟨r1, u2⟩, hc3, h⟩ := bd_some h
  try dsimp only at h
  refine cg_i (As := []) (rest := []) (AX_ge hJ) C hK hP hS (metX5_peek_2 l D cy ad st hJ _  hc3) (cwV 0 C.2.2.2.2.2.1 gX5_unit_X5_peek rfl rfl rfl (by decide +kernel) ⟨(Nat.le_trans (m := 4) (Nat.le_of_ble_eq_true rfl) (rmX5conditiong_f _)), (Nat.le_trans (m := 91) (Nat.le_of_ble_eq_true rfl) (rmX5conditiong_l _))⟩) 2 5 rfl rfl rfl hl.1 rfl (Nat.le_of_ble_eq_true rfl) dX5_unit_1 ⟨Nat.zero_le _, Nat.zero_le _⟩ (fun H locs hP hS => ?_)
  refine lv_istore_n (lv' := [(3, .int r1), (0, .ref (ad 2)), (1, .int x1), (2, .int x2)]) C.1 C.2.1 dX5_unit_4 rfl hl (by decide) rfl (fun ls hl => ?_)
  replace hl := lv_sub (l' := [(0, .ref (ad 2)), (1, .int x1), (2, .int x2), (3, .int r1)]) hl [1, 2, 3, 0] rfl
  refine lv_iload_n C.1 C.2.1 dX5_unit_5 rfl (lv_at hl 2 rfl) ?_
  refine lv_if_ne (tgt := 50) C.1 C.2.1 dX5_unit_6 (by decide) (fun c6 => ?_) (fun c6 => ?_)
  · rw [if_neg c6] at h
    exact wGX5_unit_2_50 C hK hJ hrc _ _ _ _ _ _ _ h hP hS hl
  · rw [if_pos c6] at h
    refine lv_iload_n C.1 C.2.1 dX5_unit_9 rfl (lv_at hl 1 rfl) ?_
    refine lv_bipush (v := 6) C.1 C.2.1 dX5_unit_10 (by decide) ?_
    refine lv_icmp_ge (tgt := 50) C.1 C.2.1 dX5_unit_12 (by decide) (fun c12 => ?_) (fun c12 => ?_)
    · rw [if_pos c12] at h
      exact wGX5_unit_2_50 C hK hJ hrc _ _ _ _ _ _ _ h hP hS hl
    · rw [if_neg c12] at h
      refine lv_iload_n C.1 C.2.1 dX5_unit_15 rfl (lv_at hl 3 rfl) ?_
      refine lv_bipush (v := 33) C.1 C.2.1 dX5_unit_16 (by decide) ?_
      refine lv_icmp_ne (tgt := 50) C.1 C.2.1 dX5_unit_18 (by decide) (fun c18 => ?_) (fun c18 => ?_)
      · rw [if_neg c18] at h
        exact wGX5_unit_2_50 C hK hJ hrc _ _ _ _ _ _ _ h hP hS hl
      · rw [if_pos c18] at h
        refine lv_aload_n C.1 C.2.1 dX5_unit_21 rfl (lv_at hl 0 rfl) ?_
        refine lv_dup C.1 C.2.1 dX5_unit_22 rfl ?_
        refine gX_2_at C hX5_unit_2_X5 hK hP mX5_unit_2_1 dX5_unit_23 ?_
        refine lv_iconst (v := 1) C.1 C.2.1 dX5_unit_26 (by decide) ?_
        refine lv_iadd C.1 C.2.1 dX5_unit_27 ?_
        refine pX_2_at C hX5_unit_2_X5 hK hP hJ hS mX5_unit_2_1 dX5_unit_28 (fun H locs hP hS => ?_)
        obtain ⟨u35, hu36, h⟩ := lt_some h
        rw [← hu36] at hP
        refine lv_aload_n C.1 C.2.1 dX5_unit_31 rfl (lv_at hl 0 rfl) ?_
        refine lv_iload_n C.1 C.2.1 dX5_unit_32 rfl (lv_at hl 1 rfl) ?_
        refine lv_iconst (v := 1) C.1 C.2.1 dX5_unit_33 (by decide) ?_
        refine lv_iadd C.1 C.2.1 dX5_unit_34 ?_
        refine lv_iconst (v := 0) C.1 C.2.1 dX5_unit_35 (by decide) ?_
        obtain ⟨⟨r37, u38⟩, hc39, h⟩ := bd_some h
        try dsimp only at h
        refine cg_i (As := [.int (x1 + 1), .int 0]) (rest := []) (AX_ge hJ) C hK hP hS (hrc.2.1 _ (x1 + 1) 0 _ _ _ hc39) (cwV 2 C.2.2.2.2.2.1 gX5_unit_X5_unit rfl rfl rfl (by decide +kernel) ⟨rmX5conditiong_sf dd, rmX5conditiong_sl dd (k := 8 + (6 + 11)) (Nat.le_of_ble_eq_true rfl)⟩) 2 5 rfl rfl rfl hl.1 rfl (Nat.le_of_ble_eq_true rfl) dX5_unit_36 ⟨Nat.zero_le _, Nat.zero_le _⟩ (fun H locs hP hS => ?_)
        refine lv_istore (lv' := [(4, .int r37), (0, .ref (ad 2)), (1, .int x1), (2, .int x2), (3, .int r1)]) C.1 C.2.1 dX5_unit_39 hl (by decide) rfl (fun ls hl => ?_)
        replace hl := lv_sub (l' := [(0, .ref (ad 2)), (1, .int x1), (2, .int x2), (3, .int r1), (4, .int r37)]) hl [1, 2, 3, 4, 0] rfl
        refine lv_aload_n C.1 C.2.1 dX5_unit_41 rfl (lv_at hl 0 rfl) ?_
        refine lv_iload_n C.1 C.2.1 dX5_unit_42 rfl (lv_at hl 3 rfl) ?_
        refine lv_iconst (v := 0) C.1 C.2.1 dX5_unit_43 (by decide) ?_
        obtain ⟨⟨r40, u41⟩, hc42, h⟩ := bd_some h
        try dsimp only at h
        refine cg_v (As := [.int r1, .int 0]) (rest := []) (AX_ge hJ) C hK hP hS (metX5_emit_2 l D cy ad st hJ _ r1 0 hc42) (cwV 2 C.2.2.2.2.2.1 gX5_unit_X5_emit rfl rfl rfl (by decide +kernel) ⟨(Nat.le_trans (m := 4) (Nat.le_of_ble_eq_true rfl) (rmX5conditiong_f _)), (Nat.le_trans (m := 91) (Nat.le_of_ble_eq_true rfl) (rmX5conditiong_l _))⟩) 2 5 rfl rfl rfl hl.1 rfl (Nat.le_of_ble_eq_true rfl) dX5_unit_44 ⟨Nat.zero_le _, Nat.zero_le _⟩ (fun H locs hP hS => ?_)
        refine lv_iload C.1 C.2.1 dX5_unit_47 (lv_at hl 4 rfl) ?_
        obtain ⟨hg43, h⟩ := gd_some h
        cases h
        exact rt_z hg43 C hP hS dX5_unit_49
theorem metX5_unit_2 (l : Launch) (D : va_G) (cy : Nat → ClassId) (ad st : Nat → Nat) (hJ : JX ad st) {rc : Nat → Int32 → Int32 → SX → Option (Int32 × SX)} {dd : Nat} (hrc : hRX5conditiong l D cy ad st rc dd) (sz : Nat) (x1 : Int32) (x2 : Int32) {u : SX} {r : Int32} {u' : SX} (h : fX5_unit_2 rc x1 x2 u = some (r, u')) : Met l yX5_unit wsX5_unit (rmX5conditiong (dd + 1)) (va_Pc [.ref (ad 2), .int x1, .int x2] (Px D [(cy 0, .int), (cy 1, .long), (cy 2, .boolean), (cy 3, .byte), (cy 4, .object "HissHorn$Text")] st (VX cy ad st) sz u)) (Qi D (VX cy ad st) (AX ad) sz r u') 0 0 (Ax (AX ad) sz) := by
  refine Met.ofW (cc := cX5_unit) (maxL := 6) (ret := (some .boolean)) (by decide) rfl ?_
  intro p e s m args below meth c s₁ B hml hv
  obtain ⟨rfl, hsz, hP, hK⟩ := hv
  subst hsz
  have C : Cx RX5 cX5_unit 6 (some .boolean) wsX5_unit p s m _ meth c := ⟨B.exec, B.bytes, hml, B.returns, findClass_of_methodNamed B.named, atoms_spec (ws := wsX5_unit) B.pre, B.notSynchronized⟩
  have hl := lv_entry ([.ref (ad 2), .int x1, .int x2]) (n := 6) (Nat.le_of_ble_eq_true rfl)
  rw [lg_entry_eq]
  exact wX5_unit_2 C hK hJ hrc x1 x2 h hP va_S.rf hl

theorem zdX5_total_99 : (and (and (and (and (and (zk cX5_total 99 (.aload_n 0) 1) (zk cX5_total 100 (.dup) 1)) (and (zk cX5_total 101 (.getfield 27) 3) (zk cX5_total 104 (.iconst 1) 1))) (and (and (zk cX5_total 105 (.iadd) 1) (zk cX5_total 106 (.putfield 27) 3)) (and (zk cX5_total 109 (.iinc 4 1) 3) (zk cX5_total 112 (.goto (-105)) 3)))) (and (and (and (zk cX5_total 92 (.istore_n 2) 1) (zk cX5_total 93 (.iload_n 2) 1)) (and (zk cX5_total 94 (.ifCond .ne 5) 3) (zk cX5_total 97 (.iconst 1) 1))) (and (and (zk cX5_total 98 (.ireturn) 1) (zk cX5_total 86 (.iload 5) 2)) (and (zk cX5_total 88 (.goto 4) 3) (zk cX5_total 61 (.istore_n 3) 1))))) (and (and (and (and (zk cX5_total 62 (.iload_n 3) 1) (zk cX5_total 63 (.ifCond .ne 36) 3)) (and (zk cX5_total 66 (.aload_n 0) 1) (zk cX5_total 67 (.iload_n 2) 1))) (and (and (zk cX5_total 68 (.iconst 0) 1) (zk cX5_total 69 (.invokevirtual 67) 3)) (and (zk cX5_total 72 (.iload 5) 2) (zk cX5_total 74 (.bipush 43) 2)))) (and (and (and (zk cX5_total 76 (.if_icmp .eq 10) 3) (zk cX5_total 79 (.iload 5) 2)) (and (zk cX5_total 81 (.bipush 45) 2) (zk cX5_total 83 (.if_icmp .ne 8) 3))) (and (and (zk cX5_total 91 (.iconst 0) 1) (zk cX5_total 55 (.iload 5) 2)) (and (zk cX5_total 57 (.goto 4) 3) (zk cX5_total 7 (.iload 4) 2)))))) = true := by decide +kernel
theorem dX5_total_99 : decode cX5_total 99 = .ok (.aload_n 0, 1) := zk_of (zk_l (zk_l (zk_l (zk_l (zk_l zdX5_total_99)))))
theorem dX5_total_100 : decode cX5_total 100 = .ok (.dup, 1) := zk_of (zk_r (zk_l (zk_l (zk_l (zk_l zdX5_total_99)))))
theorem dX5_total_101 : decode cX5_total 101 = .ok (.getfield 27, 3) := zk_of (zk_l (zk_r (zk_l (zk_l (zk_l zdX5_total_99)))))
theorem dX5_total_104 : decode cX5_total 104 = .ok (.iconst 1, 1) := zk_of (zk_r (zk_r (zk_l (zk_l (zk_l zdX5_total_99)))))
theorem dX5_total_105 : decode cX5_total 105 = .ok (.iadd, 1) := zk_of (zk_l (zk_l (zk_r (zk_l (zk_l zdX5_total_99)))))
theorem dX5_total_106 : decode cX5_total 106 = .ok (.putfield 27, 3) := zk_of (zk_r (zk_l (zk_r (zk_l (zk_l zdX5_total_99)))))
theorem dX5_total_109 : decode cX5_total 109 = .ok (.iinc 4 1, 3) := zk_of (zk_l (zk_r (zk_r (zk_l (zk_l zdX5_total_99)))))
theorem dX5_total_112 : decode cX5_total 112 = .ok (.goto (-105), 3) := zk_of (zk_r (zk_r (zk_r (zk_l (zk_l zdX5_total_99)))))
theorem dX5_total_92 : decode cX5_total 92 = .ok (.istore_n 2, 1) := zk_of (zk_l (zk_l (zk_l (zk_r (zk_l zdX5_total_99)))))
theorem dX5_total_93 : decode cX5_total 93 = .ok (.iload_n 2, 1) := zk_of (zk_r (zk_l (zk_l (zk_r (zk_l zdX5_total_99)))))
theorem dX5_total_94 : decode cX5_total 94 = .ok (.ifCond .ne 5, 3) := zk_of (zk_l (zk_r (zk_l (zk_r (zk_l zdX5_total_99)))))
theorem dX5_total_97 : decode cX5_total 97 = .ok (.iconst 1, 1) := zk_of (zk_r (zk_r (zk_l (zk_r (zk_l zdX5_total_99)))))
theorem dX5_total_98 : decode cX5_total 98 = .ok (.ireturn, 1) := zk_of (zk_l (zk_l (zk_r (zk_r (zk_l zdX5_total_99)))))
theorem dX5_total_86 : decode cX5_total 86 = .ok (.iload 5, 2) := zk_of (zk_r (zk_l (zk_r (zk_r (zk_l zdX5_total_99)))))
theorem dX5_total_88 : decode cX5_total 88 = .ok (.goto 4, 3) := zk_of (zk_l (zk_r (zk_r (zk_r (zk_l zdX5_total_99)))))
theorem dX5_total_61 : decode cX5_total 61 = .ok (.istore_n 3, 1) := zk_of (zk_r (zk_r (zk_r (zk_r (zk_l zdX5_total_99)))))
theorem dX5_total_62 : decode cX5_total 62 = .ok (.iload_n 3, 1) := zk_of (zk_l (zk_l (zk_l (zk_l (zk_r zdX5_total_99)))))
theorem dX5_total_63 : decode cX5_total 63 = .ok (.ifCond .ne 36, 3) := zk_of (zk_r (zk_l (zk_l (zk_l (zk_r zdX5_total_99)))))
theorem dX5_total_66 : decode cX5_total 66 = .ok (.aload_n 0, 1) := zk_of (zk_l (zk_r (zk_l (zk_l (zk_r zdX5_total_99)))))
theorem dX5_total_67 : decode cX5_total 67 = .ok (.iload_n 2, 1) := zk_of (zk_r (zk_r (zk_l (zk_l (zk_r zdX5_total_99)))))
theorem dX5_total_68 : decode cX5_total 68 = .ok (.iconst 0, 1) := zk_of (zk_l (zk_l (zk_r (zk_l (zk_r zdX5_total_99)))))
theorem dX5_total_69 : decode cX5_total 69 = .ok (.invokevirtual 67, 3) := zk_of (zk_r (zk_l (zk_r (zk_l (zk_r zdX5_total_99)))))
theorem dX5_total_72 : decode cX5_total 72 = .ok (.iload 5, 2) := zk_of (zk_l (zk_r (zk_r (zk_l (zk_r zdX5_total_99)))))
theorem dX5_total_74 : decode cX5_total 74 = .ok (.bipush 43, 2) := zk_of (zk_r (zk_r (zk_r (zk_l (zk_r zdX5_total_99)))))
theorem dX5_total_76 : decode cX5_total 76 = .ok (.if_icmp .eq 10, 3) := zk_of (zk_l (zk_l (zk_l (zk_r (zk_r zdX5_total_99)))))
theorem dX5_total_79 : decode cX5_total 79 = .ok (.iload 5, 2) := zk_of (zk_r (zk_l (zk_l (zk_r (zk_r zdX5_total_99)))))
theorem dX5_total_81 : decode cX5_total 81 = .ok (.bipush 45, 2) := zk_of (zk_l (zk_r (zk_l (zk_r (zk_r zdX5_total_99)))))
theorem dX5_total_83 : decode cX5_total 83 = .ok (.if_icmp .ne 8, 3) := zk_of (zk_r (zk_r (zk_l (zk_r (zk_r zdX5_total_99)))))
theorem dX5_total_91 : decode cX5_total 91 = .ok (.iconst 0, 1) := zk_of (zk_l (zk_l (zk_r (zk_r (zk_r zdX5_total_99)))))
theorem dX5_total_55 : decode cX5_total 55 = .ok (.iload 5, 2) := zk_of (zk_r (zk_l (zk_r (zk_r (zk_r zdX5_total_99)))))
theorem dX5_total_57 : decode cX5_total 57 = .ok (.goto 4, 3) := zk_of (zk_l (zk_r (zk_r (zk_r (zk_r zdX5_total_99)))))
theorem dX5_total_7 : decode cX5_total 7 = .ok (.iload 4, 2) := zk_of (zk_r (zk_r (zk_r (zk_r (zk_r zdX5_total_99)))))
set_option maxRecDepth 20000 in
theorem ggX5_total_X5_emit : GoodIn wsX5_total wsX5_emit := goodIn_r _ [11, 12, 13, 121, 122, 123, 124, 125] rfl (by decide +kernel)
set_option maxRecDepth 20000 in
theorem gX5_total_X5_emit : GoodIn wsX5_total (wsV RX5 67 RX5 yX5_emit wsX5_emit) := goodIn_app (goodIn_of _ (by decide +kernel)) ggX5_total_X5_emit
theorem zdX5_total_9 : (and (and (and (and (and (zk cX5_total 9 (.aload_n 0) 1) (zk cX5_total 10 (.getfield 23) 3)) (and (zk cX5_total 13 (.getfield 34) 3) (zk cX5_total 16 (.if_icmp .gt 99) 3))) (and (and (zk cX5_total 115 (.iconst 0) 1) (zk cX5_total 116 (.ireturn) 1)) (and (zk cX5_total 19 (.aload_n 0) 1) (zk cX5_total 20 (.iload_n 1) 1)))) (and (and (and (zk cX5_total 21 (.invokevirtual 78) 3) (zk cX5_total 24 (.ifCond .ne 5) 3)) (and (zk cX5_total 29 (.aload_n 0) 1) (zk cX5_total 30 (.iload_n 3) 1))) (and (and (zk cX5_total 31 (.iconst 0) 1) (zk cX5_total 32 (.invokevirtual 67) 3)) (and (zk cX5_total 35 (.aload_n 0) 1) (zk cX5_total 36 (.invokevirtual 45) 3))))) (and (and (and (and (zk cX5_total 39 (.istore 5) 2) (zk cX5_total 41 (.iload 5) 2)) (and (zk cX5_total 43 (.bipush 42) 2) (zk cX5_total 45 (.if_icmp .eq 10) 3))) (and (and (zk cX5_total 48 (.iload 5) 2) (zk cX5_total 50 (.bipush 47) 2)) (and (zk cX5_total 52 (.if_icmp .ne 8) 3) (zk cX5_total 60 (.iconst 0) 1)))) (and (and (and (zk cX5_total 27 (.iconst 0) 1) (zk cX5_total 28 (.ireturn) 1)) (and (zk cX5_total 0 (.iconst 0) 1) (zk cX5_total 1 (.istore_n 2) 1))) (and (and (zk cX5_total 2 (.iconst 0) 1) (zk cX5_total 3 (.istore_n 3) 1)) (and (zk cX5_total 4 (.iconst 0) 1) (zk cX5_total 5 (.istore 4) 2)))))) = true := by decide +kernel
theorem dX5_total_9 : decode cX5_total 9 = .ok (.aload_n 0, 1) := zk_of (zk_l (zk_l (zk_l (zk_l (zk_l zdX5_total_9)))))
theorem dX5_total_10 : decode cX5_total 10 = .ok (.getfield 23, 3) := zk_of (zk_r (zk_l (zk_l (zk_l (zk_l zdX5_total_9)))))
theorem dX5_total_13 : decode cX5_total 13 = .ok (.getfield 34, 3) := zk_of (zk_l (zk_r (zk_l (zk_l (zk_l zdX5_total_9)))))
theorem dX5_total_16 : decode cX5_total 16 = .ok (.if_icmp .gt 99, 3) := zk_of (zk_r (zk_r (zk_l (zk_l (zk_l zdX5_total_9)))))
theorem dX5_total_115 : decode cX5_total 115 = .ok (.iconst 0, 1) := zk_of (zk_l (zk_l (zk_r (zk_l (zk_l zdX5_total_9)))))
theorem dX5_total_116 : decode cX5_total 116 = .ok (.ireturn, 1) := zk_of (zk_r (zk_l (zk_r (zk_l (zk_l zdX5_total_9)))))
theorem dX5_total_19 : decode cX5_total 19 = .ok (.aload_n 0, 1) := zk_of (zk_l (zk_r (zk_r (zk_l (zk_l zdX5_total_9)))))
theorem dX5_total_20 : decode cX5_total 20 = .ok (.iload_n 1, 1) := zk_of (zk_r (zk_r (zk_r (zk_l (zk_l zdX5_total_9)))))
theorem dX5_total_21 : decode cX5_total 21 = .ok (.invokevirtual 78, 3) := zk_of (zk_l (zk_l (zk_l (zk_r (zk_l zdX5_total_9)))))
theorem dX5_total_24 : decode cX5_total 24 = .ok (.ifCond .ne 5, 3) := zk_of (zk_r (zk_l (zk_l (zk_r (zk_l zdX5_total_9)))))
theorem dX5_total_29 : decode cX5_total 29 = .ok (.aload_n 0, 1) := zk_of (zk_l (zk_r (zk_l (zk_r (zk_l zdX5_total_9)))))
theorem dX5_total_30 : decode cX5_total 30 = .ok (.iload_n 3, 1) := zk_of (zk_r (zk_r (zk_l (zk_r (zk_l zdX5_total_9)))))
theorem dX5_total_31 : decode cX5_total 31 = .ok (.iconst 0, 1) := zk_of (zk_l (zk_l (zk_r (zk_r (zk_l zdX5_total_9)))))
theorem dX5_total_32 : decode cX5_total 32 = .ok (.invokevirtual 67, 3) := zk_of (zk_r (zk_l (zk_r (zk_r (zk_l zdX5_total_9)))))
theorem dX5_total_35 : decode cX5_total 35 = .ok (.aload_n 0, 1) := zk_of (zk_l (zk_r (zk_r (zk_r (zk_l zdX5_total_9)))))
theorem dX5_total_36 : decode cX5_total 36 = .ok (.invokevirtual 45, 3) := zk_of (zk_r (zk_r (zk_r (zk_r (zk_l zdX5_total_9)))))
theorem dX5_total_39 : decode cX5_total 39 = .ok (.istore 5, 2) := zk_of (zk_l (zk_l (zk_l (zk_l (zk_r zdX5_total_9)))))
theorem dX5_total_41 : decode cX5_total 41 = .ok (.iload 5, 2) := zk_of (zk_r (zk_l (zk_l (zk_l (zk_r zdX5_total_9)))))
theorem dX5_total_43 : decode cX5_total 43 = .ok (.bipush 42, 2) := zk_of (zk_l (zk_r (zk_l (zk_l (zk_r zdX5_total_9)))))
theorem dX5_total_45 : decode cX5_total 45 = .ok (.if_icmp .eq 10, 3) := zk_of (zk_r (zk_r (zk_l (zk_l (zk_r zdX5_total_9)))))
theorem dX5_total_48 : decode cX5_total 48 = .ok (.iload 5, 2) := zk_of (zk_l (zk_l (zk_r (zk_l (zk_r zdX5_total_9)))))
theorem dX5_total_50 : decode cX5_total 50 = .ok (.bipush 47, 2) := zk_of (zk_r (zk_l (zk_r (zk_l (zk_r zdX5_total_9)))))
theorem dX5_total_52 : decode cX5_total 52 = .ok (.if_icmp .ne 8, 3) := zk_of (zk_l (zk_r (zk_r (zk_l (zk_r zdX5_total_9)))))
theorem dX5_total_60 : decode cX5_total 60 = .ok (.iconst 0, 1) := zk_of (zk_r (zk_r (zk_r (zk_l (zk_r zdX5_total_9)))))
theorem dX5_total_27 : decode cX5_total 27 = .ok (.iconst 0, 1) := zk_of (zk_l (zk_l (zk_l (zk_r (zk_r zdX5_total_9)))))
theorem dX5_total_28 : decode cX5_total 28 = .ok (.ireturn, 1) := zk_of (zk_r (zk_l (zk_l (zk_r (zk_r zdX5_total_9)))))
theorem dX5_total_0 : decode cX5_total 0 = .ok (.iconst 0, 1) := zk_of (zk_l (zk_r (zk_l (zk_r (zk_r zdX5_total_9)))))
theorem dX5_total_1 : decode cX5_total 1 = .ok (.istore_n 2, 1) := zk_of (zk_r (zk_r (zk_l (zk_r (zk_r zdX5_total_9)))))
theorem dX5_total_2 : decode cX5_total 2 = .ok (.iconst 0, 1) := zk_of (zk_l (zk_l (zk_r (zk_r (zk_r zdX5_total_9)))))
theorem dX5_total_3 : decode cX5_total 3 = .ok (.istore_n 3, 1) := zk_of (zk_r (zk_l (zk_r (zk_r (zk_r zdX5_total_9)))))
theorem dX5_total_4 : decode cX5_total 4 = .ok (.iconst 0, 1) := zk_of (zk_l (zk_r (zk_r (zk_r (zk_r zdX5_total_9)))))
theorem dX5_total_5 : decode cX5_total 5 = .ok (.istore 4, 2) := zk_of (zk_r (zk_r (zk_r (zk_r (zk_r zdX5_total_9)))))
set_option maxRecDepth 20000 in
theorem ggX5_total_X5_atom : GoodIn wsX5_total wsX5_atom := goodIn_r _ [19, 3, 20, 14, 15, 16, 7, 17, 1, 2, 18, 21, 22, 23, 24, 25, 26, 27, 28, 29, 30, 31, 8, 9, 10, 11, 12, 13, 32, 33, 34, 35, 36, 37, 38, 39, 40, 41, 42, 43, 44, 45, 46, 47, 48, 49, 50, 51, 52, 53, 54, 55, 56, 57, 58, 59, 60, 61, 62, 63, 64, 65, 66, 67, 68, 69, 70, 71, 72, 73, 74, 75, 76, 77, 78, 79, 80, 81, 82, 83, 84, 85, 86, 87, 88, 89, 90, 91, 92, 93, 94, 95, 96, 97, 98, 99, 100, 101, 102, 103, 104, 105, 106, 107, 108, 109, 110, 111, 112, 113, 114, 115, 116, 117, 118, 119, 120, 0, 4, 5, 6, 121, 122, 123, 124, 125, 126, 127] rfl (by decide +kernel)
set_option maxRecDepth 20000 in
theorem gX5_total_X5_atom : GoodIn wsX5_total (wsV RX5 78 RX5 yX5_atom wsX5_atom) := goodIn_app (goodIn_of _ (by decide +kernel)) ggX5_total_X5_atom
set_option maxRecDepth 20000 in
theorem ggX5_total_X5_peek : GoodIn wsX5_total wsX5_peek := goodIn_r _ [17, 3, 1, 2, 18, 121, 122, 123, 124, 125, 126, 127] rfl (by decide +kernel)
set_option maxRecDepth 20000 in
theorem gX5_total_X5_peek : GoodIn wsX5_total (wsV RX5 45 RX5 yX5_peek wsX5_peek) := goodIn_app (goodIn_of _ (by decide +kernel)) ggX5_total_X5_peek
/-- HissHorn$Parser.total(I)Z of cell 2 -/
theorem hX5_total_2_X5 : ∀ w ∈ u_ws RX5 TX5 5, w ∈ wsX5_total := fun w h => (List.mem_cons_of_mem _ (List.mem_append_left _ (List.mem_append_right _ h)))
theorem mX5_total_2_1 : Cond.fieldLink RX5 23 "HissHorn$Parser" "tape" "LHissHorn$Tape;" ∈ wsX5_total := (List.mem_cons_of_mem _ (List.mem_append_left _ (List.mem_append_left _ (List.mem_append_left _ (List.mem_of_getElem? (i := 0) rfl)))))
theorem hX5_total_2_X9 : ∀ w ∈ u_ws RX9 TX9 2, w ∈ wsX5_total := fun w h => (List.mem_cons_of_mem _ (List.mem_append_right _ h))
theorem mX5_total_2_3 : Cond.fieldLink RX5 34 "HissHorn$Tape" "length" "I" ∈ wsX5_total := (List.mem_cons_of_mem _ (List.mem_append_left _ (List.mem_append_left _ (List.mem_append_left _ (List.mem_of_getElem? (i := 1) rfl)))))
theorem mX5_total_2_4 : Cond.fieldLink RX5 27 "HissHorn$Parser" "at" "I" ∈ wsX5_total := (List.mem_cons_of_mem _ (List.mem_append_left _ (List.mem_append_left _ (List.mem_append_left _ (List.mem_of_getElem? (i := 2) rfl)))))
def GX5_total_2_99 (rc : Nat → Int32 → Int32 → SX → Option (Int32 × SX)) (k7 : Int32 → Int32 → Int32 → Int32 → SX → Option (Int32 × SX)) (z1 : Int32) (z2 : Int32) (z3 : Int32) (z4 : Int32) (u : SX) : Option (Int32 × SX) := (lt (sI u 4 ((u.1 4) + 1)) fun u11 => (k7 z1 z2 z3 (z4 + 1) u11))
def GX5_total_2_92 (rc : Nat → Int32 → Int32 → SX → Option (Int32 × SX)) (k7 : Int32 → Int32 → Int32 → Int32 → SX → Option (Int32 × SX)) (z1 : Int32) (z3 : Int32) (z4 : Int32) (y0 : Int32) (u : SX) : Option (Int32 × SX) := (if y0 = 0 then (gd (isB 1) (some (1, u))) else (GX5_total_2_99 rc k7 z1 y0 z3 z4 u))
def GX5_total_2_86 (rc : Nat → Int32 → Int32 → SX → Option (Int32 × SX)) (k7 : Int32 → Int32 → Int32 → Int32 → SX → Option (Int32 × SX)) (z1 : Int32) (z3 : Int32) (z4 : Int32) (z5 : Int32) (u : SX) : Option (Int32 × SX) := (GX5_total_2_92 rc k7 z1 z3 z4 z5 u)
def GX5_total_2_61 (rc : Nat → Int32 → Int32 → SX → Option (Int32 × SX)) (k7 : Int32 → Int32 → Int32 → Int32 → SX → Option (Int32 × SX)) (z1 : Int32) (z2 : Int32) (z4 : Int32) (z5 : Int32) (y0 : Int32) (u : SX) : Option (Int32 × SX) := (if y0 = 0 then ((fX5_emit_2 z2 0 u).bind fun q => match q with | (r13, u14) => (if z5 = 43 then (GX5_total_2_86 rc k7 z1 y0 z4 z5 u14) else (if z5 = 45 then (GX5_total_2_86 rc k7 z1 y0 z4 z5 u14) else (GX5_total_2_92 rc k7 z1 y0 z4 0 u14)))) else (GX5_total_2_99 rc k7 z1 z2 y0 z4 u))
def GX5_total_2_55 (rc : Nat → Int32 → Int32 → SX → Option (Int32 × SX)) (k7 : Int32 → Int32 → Int32 → Int32 → SX → Option (Int32 × SX)) (z1 : Int32) (z2 : Int32) (z4 : Int32) (z5 : Int32) (u : SX) : Option (Int32 × SX) := (GX5_total_2_61 rc k7 z1 z2 z4 z5 z5 u)
def LX5_total_2_7 (rc : Nat → Int32 → Int32 → SX → Option (Int32 × SX))  : Nat → Int32 → Int32 → Int32 → Int32 → SX → Option (Int32 × SX)
  | 0, _, _, _, _, _ => none
  | n + 1, z1, z2, z3, z4, u => (if (u.1 1) < z4 then (gd (isB 0) (some (0, u))) else ((rc 3 z1 0 u).bind fun q => match q with | (r2, u3) => (if r2 = 0 then (gd (isB 0) (some (0, u3))) else ((fX5_emit_2 z3 0 u3).bind fun q => match q with | (r5, u6) => ((fX5_peek_2  u6).bind fun q => match q with | (r8, u9) => (if r8 = 42 then (GX5_total_2_55 rc (LX5_total_2_7 rc n) z1 z2 z4 r8 u9) else (if r8 = 47 then (GX5_total_2_55 rc (LX5_total_2_7 rc n) z1 z2 z4 r8 u9) else (GX5_total_2_61 rc (LX5_total_2_7 rc n) z1 z2 z4 r8 0 u9))))))))
def fX5_total_2 (rc : Nat → Int32 → Int32 → SX → Option (Int32 × SX)) (x1 : Int32) (u : SX) : Option (Int32 × SX) := (LX5_total_2_7 rc  5000 x1 0 0 0 u)
set_option maxHeartbeats 4000000 in
set_option maxRecDepth 100000 in
theorem wGX5_total_2_99 {p : Program} {l : Launch} {e : Env} {s : State} {m : MethodId} {args : Array Value} {below : List Frame} {meth : Method} {c : Code} {D : va_G} {cy : Nat → ClassId} {ad st : Nat → Nat} (C : Cx RX5 cX5_total 6 (some .boolean) wsX5_total p s m args meth c) (hK : Ky D [(cy 0, .int), (cy 1, .long), (cy 2, .boolean), (cy 3, .byte), (cy 4, .object "HissHorn$Text")] st s) (hJ : JX ad st) {rc : Nat → Int32 → Int32 → SX → Option (Int32 × SX)} {dd : Nat} (hrc : hRX5conditiong l D cy ad st rc dd) {r : Int32} {u' : SX} {k7 : Int32 → Int32 → Int32 → Int32 → SX → Option (Int32 × SX)} (hk7 : ∀ (z1 : Int32) (z2 : Int32) (z3 : Int32) (z4 : Int32) (u : SX) (H : Heap) (locs : List Loc) (ls : Array Slot), k7 z1 z2 z3 z4 u = some (r, u') → va_P D vwCl (VX cy ad st u) H → va_S (Ax (AX ad) s.heap.size) s.heap H locs → lv_has ls 6 [(0, .ref (ad 2)), (1, .int z1), (2, .int z2), (3, .int z3), (4, .int z4)] → W p l e (rmX5conditiong (dd + 1)) s m args below meth c H locs 0 0 (MQ below (Qi D (VX cy ad st) (AX ad) s.heap.size r u') args s 0 0 (Ax (AX ad) s.heap.size)) (F0 m 7 ls [])) (z1 : Int32) (z2 : Int32) (z3 : Int32) (z4 : Int32) (u : SX) (H : Heap) (locs : List Loc) (ls : Array Slot) (h : GX5_total_2_99 rc k7 z1 z2 z3 z4 u = some (r, u')) (hP : va_P D vwCl (VX cy ad st u) H) (hS : va_S (Ax (AX ad) s.heap.size) s.heap H locs) (hl : lv_has ls 6 [(0, .ref (ad 2)), (1, .int z1), (2, .int z2), (3, .int z3), (4, .int z4)]) : W p l e (rmX5conditiong (dd + 1)) s m args below meth c H locs 0 0 (MQ below (Qi D (VX cy ad st) (AX ad) s.heap.size r u') args s 0 0 (Ax (AX ad) s.heap.size)) (F0 m 99 ls []) := by
  unfold GX5_total_2_99 at h
  refine lv_aload_n C.1 C.2.1 dX5_total_99 rfl (lv_at hl 0 rfl) ?_
  refine lv_dup C.1 C.2.1 dX5_total_100 rfl ?_
  refine gX_2_at C hX5_total_2_X5 hK hP mX5_total_2_4 dX5_total_101 ?_
  refine lv_iconst (v := 1) C.1 C.2.1 dX5_total_104 (by decide) ?_
  refine lv_iadd C.1 C.2.1 dX5_total_105 ?_
  refine pX_2_at C hX5_total_2_X5 hK hP hJ hS mX5_total_2_4 dX5_total_106 (fun H locs hP hS => ?_)
  obtain ⟨u11, hu12, h⟩ := lt_some h
  rw [← hu12] at hP
  refine lv_iinc (v := z4 + 1) (lv' := [(4, .int (z4 + 1)), (0, .ref (ad 2)), (1, .int z1), (2, .int z2), (3, .int z3)]) C.1 C.2.1 dX5_total_109 hl (k := 4) rfl rfl (by decide) rfl (fun ls hl => ?_)
  replace hl := lv_sub (l' := [(0, .ref (ad 2)), (1, .int z1), (2, .int z2), (3, .int z3), (4, .int (z4 + 1))]) hl [1, 2, 3, 4, 0] rfl
  refine lv_goto (tgt := 7) C.1 C.2.1 dX5_total_112 (by decide) ?_
  exact hk7 _ _ _ _ _ _ _ _ h hP hS hl
set_option maxHeartbeats 4000000 in
set_option maxRecDepth 100000 in
theorem wGX5_total_2_92 {p : Program} {l : Launch} {e : Env} {s : State} {m : MethodId} {args : Array Value} {below : List Frame} {meth : Method} {c : Code} {D : va_G} {cy : Nat → ClassId} {ad st : Nat → Nat} (C : Cx RX5 cX5_total 6 (some .boolean) wsX5_total p s m args meth c) (hK : Ky D [(cy 0, .int), (cy 1, .long), (cy 2, .boolean), (cy 3, .byte), (cy 4, .object "HissHorn$Text")] st s) (hJ : JX ad st) {rc : Nat → Int32 → Int32 → SX → Option (Int32 × SX)} {dd : Nat} (hrc : hRX5conditiong l D cy ad st rc dd) {r : Int32} {u' : SX} {k7 : Int32 → Int32 → Int32 → Int32 → SX → Option (Int32 × SX)} (hk7 : ∀ (z1 : Int32) (z2 : Int32) (z3 : Int32) (z4 : Int32) (u : SX) (H : Heap) (locs : List Loc) (ls : Array Slot), k7 z1 z2 z3 z4 u = some (r, u') → va_P D vwCl (VX cy ad st u) H → va_S (Ax (AX ad) s.heap.size) s.heap H locs → lv_has ls 6 [(0, .ref (ad 2)), (1, .int z1), (2, .int z2), (3, .int z3), (4, .int z4)] → W p l e (rmX5conditiong (dd + 1)) s m args below meth c H locs 0 0 (MQ below (Qi D (VX cy ad st) (AX ad) s.heap.size r u') args s 0 0 (Ax (AX ad) s.heap.size)) (F0 m 7 ls [])) (z1 : Int32) (z3 : Int32) (z4 : Int32) (y0 : Int32) (u : SX) (H : Heap) (locs : List Loc) (ls : Array Slot) (h : GX5_total_2_92 rc k7 z1 z3 z4 y0 u = some (r, u')) (hP : va_P D vwCl (VX cy ad st u) H) (hS : va_S (Ax (AX ad) s.heap.size) s.heap H locs) (hl : lv_has ls 6 [(0, .ref (ad 2)), (1, .int z1), (3, .int z3), (4, .int z4)]) : W p l e (rmX5conditiong (dd + 1)) s m args below meth c H locs 0 0 (MQ below (Qi D (VX cy ad st) (AX ad) s.heap.size r u') args s 0 0 (Ax (AX ad) s.heap.size)) (F0 m 92 ls [.int y0]) := by
  unfold GX5_total_2_92 at h
  refine lv_istore_n (lv' := [(2, .int y0), (0, .ref (ad 2)), (1, .int z1), (3, .int z3), (4, .int z4)]) C.1 C.2.1 dX5_total_92 rfl hl (by decide) rfl (fun ls hl => ?_)
  replace hl := lv_sub (l' := [(0, .ref (ad 2)), (1, .int z1), (2, .int y0), (3, .int z3), (4, .int z4)]) hl [1, 2, 0, 3, 4] rfl
  refine lv_iload_n C.1 C.2.1 dX5_total_93 rfl (lv_at hl 2 rfl) ?_
  refine lv_if_ne (tgt := 99) C.1 C.2.1 dX5_total_94 (by decide) (fun c94 => ?_) (fun c94 => ?_)
  · rw [if_neg c94] at h
    exact wGX5_total_2_99 C hK hJ hrc hk7 _ _ _ _ _ _ _ _ h hP hS hl
  · rw [if_pos c94] at h
    refine lv_iconst (v := 1) C.1 C.2.1 dX5_total_97 (by decide) ?_
    obtain ⟨hg16, h⟩ := gd_some h
    cases h
    exact rt_z hg16 C hP hS dX5_total_98
set_option maxHeartbeats 4000000 in
set_option maxRecDepth 100000 in
theorem wGX5_total_2_86 {p : Program} {l : Launch} {e : Env} {s : State} {m : MethodId} {args : Array Value} {below : List Frame} {meth : Method} {c : Code} {D : va_G} {cy : Nat → ClassId} {ad st : Nat → Nat} (C : Cx RX5 cX5_total 6 (some .boolean) wsX5_total p s m args meth c) (hK : Ky D [(cy 0, .int), (cy 1, .long), (cy 2, .boolean), (cy 3, .byte), (cy 4, .object "HissHorn$Text")] st s) (hJ : JX ad st) {rc : Nat → Int32 → Int32 → SX → Option (Int32 × SX)} {dd : Nat} (hrc : hRX5conditiong l D cy ad st rc dd) {r : Int32} {u' : SX} {k7 : Int32 → Int32 → Int32 → Int32 → SX → Option (Int32 × SX)} (hk7 : ∀ (z1 : Int32) (z2 : Int32) (z3 : Int32) (z4 : Int32) (u : SX) (H : Heap) (locs : List Loc) (ls : Array Slot), k7 z1 z2 z3 z4 u = some (r, u') → va_P D vwCl (VX cy ad st u) H → va_S (Ax (AX ad) s.heap.size) s.heap H locs → lv_has ls 6 [(0, .ref (ad 2)), (1, .int z1), (2, .int z2), (3, .int z3), (4, .int z4)] → W p l e (rmX5conditiong (dd + 1)) s m args below meth c H locs 0 0 (MQ below (Qi D (VX cy ad st) (AX ad) s.heap.size r u') args s 0 0 (Ax (AX ad) s.heap.size)) (F0 m 7 ls [])) (z1 : Int32) (z3 : Int32) (z4 : Int32) (z5 : Int32) (u : SX) (H : Heap) (locs : List Loc) (ls : Array Slot) (h : GX5_total_2_86 rc k7 z1 z3 z4 z5 u = some (r, u')) (hP : va_P D vwCl (VX cy ad st u) H) (hS : va_S (Ax (AX ad) s.heap.size) s.heap H locs) (hl : lv_has ls 6 [(0, .ref (ad 2)), (1, .int z1), (3, .int z3), (4, .int z4), (5, .int z5)]) : W p l e (rmX5conditiong (dd + 1)) s m args below meth c H locs 0 0 (MQ below (Qi D (VX cy ad st) (AX ad) s.heap.size r u') args s 0 0 (Ax (AX ad) s.heap.size)) (F0 m 86 ls []) := by
  unfold GX5_total_2_86 at h
  refine lv_iload C.1 C.2.1 dX5_total_86 (lv_at hl 4 rfl) ?_
  refine lv_goto (tgt := 92) C.1 C.2.1 dX5_total_88 (by decide) ?_
  exact wGX5_total_2_92 C hK hJ hrc hk7 _ _ _ _ _ _ _ _ h hP hS (lv_sub hl [0, 1, 2, 3] rfl)
set_option maxHeartbeats 4000000 in
set_option maxRecDepth 100000 in
theorem wGX5_total_2_61 {p : Program} {l : Launch} {e : Env} {s : State} {m : MethodId} {args : Array Value} {below : List Frame} {meth : Method} {c : Code} {D : va_G} {cy : Nat → ClassId} {ad st : Nat → Nat} (C : Cx RX5 cX5_total 6 (some .boolean) wsX5_total p s m args meth c) (hK : Ky D [(cy 0, .int), (cy 1, .long), (cy 2, .boolean), (cy 3, .byte), (cy 4, .object "HissHorn$Text")] st s) (hJ : JX ad st) {rc : Nat → Int32 → Int32 → SX → Option (Int32 × SX)} {dd : Nat} (hrc : hRX5conditiong l D cy ad st rc dd) {r : Int32} {u' : SX} {k7 : Int32 → Int32 → Int32 → Int32 → SX → Option (Int32 × SX)} (hk7 : ∀ (z1 : Int32) (z2 : Int32) (z3 : Int32) (z4 : Int32) (u : SX) (H : Heap) (locs : List Loc) (ls : Array Slot), k7 z1 z2 z3 z4 u = some (r, u') → va_P D vwCl (VX cy ad st u) H → va_S (Ax (AX ad) s.heap.size) s.heap H locs → lv_has ls 6 [(0, .ref (ad 2)), (1, .int z1), (2, .int z2), (3, .int z3), (4, .int z4)] → W p l e (rmX5conditiong (dd + 1)) s m args below meth c H locs 0 0 (MQ below (Qi D (VX cy ad st) (AX ad) s.heap.size r u') args s 0 0 (Ax (AX ad) s.heap.size)) (F0 m 7 ls [])) (z1 : Int32) (z2 : Int32) (z4 : Int32) (z5 : Int32) (y0 : Int32) (u : SX) (H : Heap) (locs : List Loc) (ls : Array Slot) (h : GX5_total_2_61 rc k7 z1 z2 z4 z5 y0 u = some (r, u')) (hP : va_P D vwCl (VX cy ad st u) H) (hS : va_S (Ax (AX ad) s.heap.size) s.heap H locs) (hl : lv_has ls 6 [(0, .ref (ad 2)), (1, .int z1), (2, .int z2), (4, .int z4), (5, .int z5)]) : W p l e (rmX5conditiong (dd + 1)) s m args below meth c H locs 0 0 (MQ below (Qi D (VX cy ad st) (AX ad) s.heap.size r u') args s 0 0 (Ax (AX ad) s.heap.size)) (F0 m 61 ls [.int y0]) := by
  unfold GX5_total_2_61 at h
  refine lv_istore_n (lv' := [(3, .int y0), (0, .ref (ad 2)), (1, .int z1), (2, .int z2), (4, .int z4), (5, .int z5)]) C.1 C.2.1 dX5_total_61 rfl hl (by decide) rfl (fun ls hl => ?_)
  replace hl := lv_sub (l' := [(0, .ref (ad 2)), (1, .int z1), (2, .int z2), (3, .int y0), (4, .int z4), (5, .int z5)]) hl [1, 2, 3, 0, 4, 5] rfl
  refine lv_iload_n C.1 C.2.1 dX5_total_62 rfl (lv_at hl 3 rfl) ?_
  refine lv_if_ne (tgt := 99) C.1 C.2.1 dX5_total_63 (by decide) (fun c63 => ?_) (fun c63 => ?_)
  · rw [if_neg c63] at h
    exact wGX5_total_2_99 C hK hJ hrc hk7 _ _ _ _ _ _ _ _ h hP hS (lv_sub hl [0, 1, 2, 3, 4] rfl)
  · rw [if_pos c63] at h
    refine lv_aload_n C.1 C.2.1 dX5_total_66 rfl (lv_at hl 0 rfl) ?_
    refine lv_iload_n C.1 C.2.1 dX5_total_67 rfl (lv_at hl 2 rfl) ?_
    refine lv_iconst (v := 0) C.1 C.2.1 dX5_total_68 (by decide) ?_
    obtain ⟨⟨r13, u14⟩, hc15, h⟩ := bd_some h
    try dsimp only at h
    refine cg_v (As := [.int z2, .int 0]) (rest := []) (AX_ge hJ) C hK hP hS (metX5_emit_2 l D cy ad st hJ _ z2 0 hc15) (cwV 2 C.2.2.2.2.2.1 gX5_total_X5_emit rfl rfl rfl (by decide +kernel) ⟨(Nat.le_trans (m := 4) (Nat.le_of_ble_eq_true rfl) (rmX5conditiong_f _)), (Nat.le_trans (m := 91) (Nat.le_of_ble_eq_true rfl) (rmX5conditiong_l _))⟩) 2 5 rfl rfl rfl hl.1 rfl (Nat.le_of_ble_eq_true rfl) dX5_total_69 ⟨Nat.zero_le _, Nat.zero_le _⟩ (fun H locs hP hS => ?_)
    refine lv_iload C.1 C.2.1 dX5_total_72 (lv_at hl 5 rfl) ?_
    refine lv_bipush (v := 43) C.1 C.2.1 dX5_total_74 (by decide) ?_
    refine lv_icmp_eq (tgt := 86) C.1 C.2.1 dX5_total_76 (by decide) (fun c76 => ?_) (fun c76 => ?_)
    · rw [if_pos c76] at h
      exact wGX5_total_2_86 C hK hJ hrc hk7 _ _ _ _ _ _ _ _ h hP hS (lv_sub hl [0, 1, 3, 4, 5] rfl)
    · rw [if_neg c76] at h
      refine lv_iload C.1 C.2.1 dX5_total_79 (lv_at hl 5 rfl) ?_
      refine lv_bipush (v := 45) C.1 C.2.1 dX5_total_81 (by decide) ?_
      refine lv_icmp_ne (tgt := 91) C.1 C.2.1 dX5_total_83 (by decide) (fun c83 => ?_) (fun c83 => ?_)
      · rw [if_neg c83] at h
        refine lv_iconst (v := 0) C.1 C.2.1 dX5_total_91 (by decide) ?_
        exact wGX5_total_2_92 C hK hJ hrc hk7 _ _ _ _ _ _ _ _ h hP hS (lv_sub hl [0, 1, 3, 4] rfl)
      · rw [if_pos c83] at h
        exact wGX5_total_2_86 C hK hJ hrc hk7 _ _ _ _ _ _ _ _ h hP hS (lv_sub hl [0, 1, 3, 4, 5] rfl)
set_option maxHeartbeats 4000000 in
set_option maxRecDepth 100000 in
theorem wGX5_total_2_55 {p : Program} {l : Launch} {e : Env} {s : State} {m : MethodId} {args : Array Value} {below : List Frame} {meth : Method} {c : Code} {D : va_G} {cy : Nat → ClassId} {ad st : Nat → Nat} (C : Cx RX5 cX5_total 6 (some .boolean) wsX5_total p s m args meth c) (hK : Ky D [(cy 0, .int), (cy 1, .long), (cy 2, .boolean), (cy 3, .byte), (cy 4, .object "HissHorn$Text")] st s) (hJ : JX ad st) {rc : Nat → Int32 → Int32 → SX → Option (Int32 × SX)} {dd : Nat} (hrc : hRX5conditiong l D cy ad st rc dd) {r : Int32} {u' : SX} {k7 : Int32 → Int32 → Int32 → Int32 → SX → Option (Int32 × SX)} (hk7 : ∀ (z1 : Int32) (z2 : Int32) (z3 : Int32) (z4 : Int32) (u : SX) (H : Heap) (locs : List Loc) (ls : Array Slot), k7 z1 z2 z3 z4 u = some (r, u') → va_P D vwCl (VX cy ad st u) H → va_S (Ax (AX ad) s.heap.size) s.heap H locs → lv_has ls 6 [(0, .ref (ad 2)), (1, .int z1), (2, .int z2), (3, .int z3), (4, .int z4)] → W p l e (rmX5conditiong (dd + 1)) s m args below meth c H locs 0 0 (MQ below (Qi D (VX cy ad st) (AX ad) s.heap.size r u') args s 0 0 (Ax (AX ad) s.heap.size)) (F0 m 7 ls [])) (z1 : Int32) (z2 : Int32) (z4 : Int32) (z5 : Int32) (u : SX) (H : Heap) (locs : List Loc) (ls : Array Slot) (h : GX5_total_2_55 rc k7 z1 z2 z4 z5 u = some (r, u')) (hP : va_P D vwCl (VX cy ad st u) H) (hS : va_S (Ax (AX ad) s.heap.size) s.heap H locs) (hl : lv_has ls 6 [(0, .ref (ad 2)), (1, .int z1), (2, .int z2), (4, .int z4), (5, .int z5)]) : W p l e (rmX5conditiong (dd + 1)) s m args below meth c H locs 0 0 (MQ below (Qi D (VX cy ad st) (AX ad) s.heap.size r u') args s 0 0 (Ax (AX ad) s.heap.size)) (F0 m 55 ls []) := by
  unfold GX5_total_2_55 at h
  refine lv_iload C.1 C.2.1 dX5_total_55 (lv_at hl 4 rfl) ?_
  refine lv_goto (tgt := 61) C.1 C.2.1 dX5_total_57 (by decide) ?_
  exact wGX5_total_2_61 C hK hJ hrc hk7 _ _ _ _ _ _ _ _ _ h hP hS hl
set_option maxHeartbeats 4000000 in
set_option maxRecDepth 100000 in
theorem wLX5_total_2_7 {p : Program} {l : Launch} {e : Env} {s : State} {m : MethodId} {args : Array Value} {below : List Frame} {meth : Method} {c : Code} {D : va_G} {cy : Nat → ClassId} {ad st : Nat → Nat} (C : Cx RX5 cX5_total 6 (some .boolean) wsX5_total p s m args meth c) (hK : Ky D [(cy 0, .int), (cy 1, .long), (cy 2, .boolean), (cy 3, .byte), (cy 4, .object "HissHorn$Text")] st s) (hJ : JX ad st) {rc : Nat → Int32 → Int32 → SX → Option (Int32 × SX)} {dd : Nat} (hrc : hRX5conditiong l D cy ad st rc dd) {r : Int32} {u' : SX}   : ∀ (n : Nat) (z1 : Int32) (z2 : Int32) (z3 : Int32) (z4 : Int32) (u : SX) (H : Heap) (locs : List Loc) (ls : Array Slot), LX5_total_2_7 rc  n z1 z2 z3 z4 u = some (r, u') → va_P D vwCl (VX cy ad st u) H → va_S (Ax (AX ad) s.heap.size) s.heap H locs → lv_has ls 6 [(0, .ref (ad 2)), (1, .int z1), (2, .int z2), (3, .int z3), (4, .int z4)] → W p l e (rmX5conditiong (dd + 1)) s m args below meth c H locs 0 0 (MQ below (Qi D (VX cy ad st) (AX ad) s.heap.size r u') args s 0 0 (Ax (AX ad) s.heap.size)) (F0 m 7 ls []) := by
  intro n
  induction n with
  | zero =>
    intro z1 z2 z3 z4 u H locs ls h
    exact absurd h (by intro q; cases q)
  | succ n ih =>
    intro z1 z2 z3 z4 u H locs ls h hP hS hl
    rw [LX5_total_2_7] at h
    refine lv_iload C.1 C.2.1 dX5_total_7 (lv_at hl 4 rfl) ?_
    refine lv_aload_n C.1 C.2.1 dX5_total_9 rfl (lv_at hl 0 rfl) ?_
    refine gX_2_tape C hX5_total_2_X5 hK hP mX5_total_2_1 dX5_total_10 ?_
    refine gX_1_length C hX5_total_2_X9 hK hP mX5_total_2_3 dX5_total_13 ?_
    refine lv_icmp_gt (tgt := 115) C.1 C.2.1 dX5_total_16 (by decide) (fun c16 => ?_) (fun c16 => ?_)
    · rw [if_pos c16] at h
      refine lv_iconst (v := 0) C.1 C.2.1 dX5_total_115 (by decide) ?_
      obtain ⟨hg1, h⟩ := gd_some h
      cases h
      exact rt_z hg1 C hP hS dX5_total_116
    · rw [if_neg c16] at h
      refine lv_aload_n C.1 C.2.1 dX5_total_19 rfl (lv_at hl 0 rfl) ?_
      refine lv_iload_n C.1 C.2.1 dX5_total_20 rfl (lv_at hl 1 rfl) ?_
      obtain ⟨⟨r2, u3⟩, hc4, h⟩ := bd_some h
      try dsimp only at h
      refine cg_i (As := [.int z1]) (rest := []) (AX_ge hJ) C hK hP hS (hrc.2.2.2 _ z1 _ _ _ hc4) (cwV 1 C.2.2.2.2.2.1 gX5_total_X5_atom rfl rfl rfl (by decide +kernel) ⟨rmX5conditiong_sf dd, rmX5conditiong_sl dd (k := 8 + (4 + 11)) (Nat.le_of_ble_eq_true rfl)⟩) 2 5 rfl rfl rfl hl.1 rfl (Nat.le_of_ble_eq_true rfl) dX5_total_21 ⟨Nat.zero_le _, Nat.zero_le _⟩ (fun H locs hP hS => ?_)
      refine lv_if_ne (tgt := 29) C.1 C.2.1 dX5_total_24 (by decide) (fun c24 => ?_) (fun c24 => ?_)
      · rw [if_neg c24] at h
        refine lv_aload_n C.1 C.2.1 dX5_total_29 rfl (lv_at hl 0 rfl) ?_
        refine lv_iload_n C.1 C.2.1 dX5_total_30 rfl (lv_at hl 3 rfl) ?_
        refine lv_iconst (v := 0) C.1 C.2.1 dX5_total_31 (by decide) ?_
        obtain ⟨⟨r5, u6⟩, hc7, h⟩ := bd_some h
        try dsimp only at h
        refine cg_v (As := [.int z3, .int 0]) (rest := []) (AX_ge hJ) C hK hP hS (metX5_emit_2 l D cy ad st hJ _ z3 0 hc7) (cwV 2 C.2.2.2.2.2.1 gX5_total_X5_emit rfl rfl rfl (by decide +kernel) ⟨(Nat.le_trans (m := 4) (Nat.le_of_ble_eq_true rfl) (rmX5conditiong_f _)), (Nat.le_trans (m := 91) (Nat.le_of_ble_eq_true rfl) (rmX5conditiong_l _))⟩) 2 5 rfl rfl rfl hl.1 rfl (Nat.le_of_ble_eq_true rfl) dX5_total_32 ⟨Nat.zero_le _, Nat.zero_le _⟩ (fun H locs hP hS => ?_)
        refine lv_aload_n C.1 C.2.1 dX5_total_35 rfl (lv_at hl 0 rfl) ?_
        obtain ⟨⟨r8, u9⟩, hc10, h⟩ := bd_some h
        try dsimp only at h
        refine cg_i (As := []) (rest := []) (AX_ge hJ) C hK hP hS (metX5_peek_2 l D cy ad st hJ _  hc10) (cwV 0 C.2.2.2.2.2.1 gX5_total_X5_peek rfl rfl rfl (by decide +kernel) ⟨(Nat.le_trans (m := 4) (Nat.le_of_ble_eq_true rfl) (rmX5conditiong_f _)), (Nat.le_trans (m := 91) (Nat.le_of_ble_eq_true rfl) (rmX5conditiong_l _))⟩) 2 5 rfl rfl rfl hl.1 rfl (Nat.le_of_ble_eq_true rfl) dX5_total_36 ⟨Nat.zero_le _, Nat.zero_le _⟩ (fun H locs hP hS => ?_)
        refine lv_istore (lv' := [(5, .int r8), (0, .ref (ad 2)), (1, .int z1), (2, .int z2), (3, .int z3), (4, .int z4)]) C.1 C.2.1 dX5_total_39 hl (by decide) rfl (fun ls hl => ?_)
        replace hl := lv_sub (l' := [(0, .ref (ad 2)), (1, .int z1), (2, .int z2), (3, .int z3), (4, .int z4), (5, .int r8)]) hl [1, 2, 3, 4, 5, 0] rfl
        refine lv_iload C.1 C.2.1 dX5_total_41 (lv_at hl 5 rfl) ?_
        refine lv_bipush (v := 42) C.1 C.2.1 dX5_total_43 (by decide) ?_
        refine lv_icmp_eq (tgt := 55) C.1 C.2.1 dX5_total_45 (by decide) (fun c45 => ?_) (fun c45 => ?_)
        · rw [if_pos c45] at h
          exact wGX5_total_2_55 C hK hJ hrc ih _ _ _ _ _ _ _ _ h hP hS (lv_sub hl [0, 1, 2, 4, 5] rfl)
        · rw [if_neg c45] at h
          refine lv_iload C.1 C.2.1 dX5_total_48 (lv_at hl 5 rfl) ?_
          refine lv_bipush (v := 47) C.1 C.2.1 dX5_total_50 (by decide) ?_
          refine lv_icmp_ne (tgt := 60) C.1 C.2.1 dX5_total_52 (by decide) (fun c52 => ?_) (fun c52 => ?_)
          · rw [if_neg c52] at h
            refine lv_iconst (v := 0) C.1 C.2.1 dX5_total_60 (by decide) ?_
            exact wGX5_total_2_61 C hK hJ hrc ih _ _ _ _ _ _ _ _ _ h hP hS (lv_sub hl [0, 1, 2, 4, 5] rfl)
          · rw [if_pos c52] at h
            exact wGX5_total_2_55 C hK hJ hrc ih _ _ _ _ _ _ _ _ h hP hS (lv_sub hl [0, 1, 2, 4, 5] rfl)
      · rw [if_pos c24] at h
        refine lv_iconst (v := 0) C.1 C.2.1 dX5_total_27 (by decide) ?_
        obtain ⟨hg17, h⟩ := gd_some h
        cases h
        exact rt_z hg17 C hP hS dX5_total_28
set_option maxHeartbeats 4000000 in
set_option maxRecDepth 100000 in
theorem wX5_total_2 {p : Program} {l : Launch} {e : Env} {s : State} {m : MethodId} {args : Array Value} {below : List Frame} {meth : Method} {c : Code} {D : va_G} {cy : Nat → ClassId} {ad st : Nat → Nat} (C : Cx RX5 cX5_total 6 (some .boolean) wsX5_total p s m args meth c) (hK : Ky D [(cy 0, .int), (cy 1, .long), (cy 2, .boolean), (cy 3, .byte), (cy 4, .object "HissHorn$Text")] st s) (hJ : JX ad st) {rc : Nat → Int32 → Int32 → SX → Option (Int32 × SX)} {dd : Nat} (hrc : hRX5conditiong l D cy ad st rc dd) (x1 : Int32) {u : SX} {r : Int32} {u' : SX} {H : Heap} {locs : List Loc} {ls : Array Slot} (h : fX5_total_2 rc x1 u = some (r, u')) (hP : va_P D vwCl (VX cy ad st u) H) (hS : va_S (Ax (AX ad) s.heap.size) s.heap H locs) (hl : lv_has ls 6 [(0, .ref (ad 2)), (1, .int x1)]) : W p l e (rmX5conditiong (dd + 1)) s m args below meth c H locs 0 0 (MQ below (Qi D (VX cy ad st) (AX ad) s.heap.size r u') args s 0 0 (Ax (AX ad) s.heap.size)) (F0 m 0 ls []) := by
  unfold fX5_total_2 at h
  refine lv_iconst (v := 0) C.1 C.2.1 dX5_total_0 (by decide) ?_
  refine lv_istore_n (lv' := [(2, .int 0), (0, .ref (ad 2)), (1, .int x1)]) C.1 C.2.1 dX5_total_1 rfl hl (by decide) rfl (fun ls hl => ?_)
  replace hl := lv_sub (l' := [(0, .ref (ad 2)), (1, .int x1), (2, .int 0)]) hl [1, 2, 0] rfl
  refine lv_iconst (v := 0) C.1 C.2.1 dX5_total_2 (by decide) ?_
  refine lv_istore_n (lv' := [(3, .int 0), (0, .ref (ad 2)), (1, .int x1), (2, .int 0)]) C.1 C.2.1 dX5_total_3 rfl hl (by decide) rfl (fun ls hl => ?_)
  replace hl := lv_sub (l' := [(0, .ref (ad 2)), (1, .int x1), (2, .int 0), (3, .int 0)]) hl [1, 2, 3, 0] rfl
  refine lv_iconst (v := 0) C.1 C.2.1 dX5_total_4 (by decide) ?_
  refine lv_istore (lv' := [(4, .int 0), (0, .ref (ad 2)), (1, .int x1), (2, .int 0), (3, .int 0)]) C.1 C.2.1 dX5_total_5 hl (by decide) rfl (fun ls hl => ?_)
  replace hl := lv_sub (l' := [(0, .ref (ad 2)), (1, .int x1), (2, .int 0), (3, .int 0), (4, .int 0)]) hl [1, 2, 3, 4, 0] rfl
  exact wLX5_total_2_7 C hK hJ hrc  5000 _ _ _ _ _ _ _ _ h hP hS hl
theorem metX5_total_2 (l : Launch) (D : va_G) (cy : Nat → ClassId) (ad st : Nat → Nat) (hJ : JX ad st) {rc : Nat → Int32 → Int32 → SX → Option (Int32 × SX)} {dd : Nat} (hrc : hRX5conditiong l D cy ad st rc dd) (sz : Nat) (x1 : Int32) {u : SX} {r : Int32} {u' : SX} (h : fX5_total_2 rc x1 u = some (r, u')) : Met l yX5_total wsX5_total (rmX5conditiong (dd + 1)) (va_Pc [.ref (ad 2), .int x1] (Px D [(cy 0, .int), (cy 1, .long), (cy 2, .boolean), (cy 3, .byte), (cy 4, .object "HissHorn$Text")] st (VX cy ad st) sz u)) (Qi D (VX cy ad st) (AX ad) sz r u') 0 0 (Ax (AX ad) sz) := by
  refine Met.ofW (cc := cX5_total) (maxL := 6) (ret := (some .boolean)) (by decide) rfl ?_
  intro p e s m args below meth c s₁ B hml hv
  obtain ⟨rfl, hsz, hP, hK⟩ := hv
  subst hsz
  have C : Cx RX5 cX5_total 6 (some .boolean) wsX5_total p s m _ meth c := ⟨B.exec, B.bytes, hml, B.returns, findClass_of_methodNamed B.named, atoms_spec (ws := wsX5_total) B.pre, B.notSynchronized⟩
  have hl := lv_entry ([.ref (ad 2), .int x1]) (n := 6) (Nat.le_of_ble_eq_true rfl)
  rw [lg_entry_eq]
  exact wX5_total_2 C hK hJ hrc x1 h hP va_S.rf hl

theorem zdX5_atom_104 : (and (and (and (and (and (zk cX5_atom 104 (.istore_n 3) 1) (zk cX5_atom 105 (.iload_n 3) 1)) (and (zk cX5_atom 106 (.ifCond .ge 5) 3) (zk cX5_atom 111 (.aload_n 0) 1))) (and (and (zk cX5_atom 112 (.dup) 1) (zk cX5_atom 113 (.getfield 27) 3)) (and (zk cX5_atom 116 (.iconst 1) 1) (zk cX5_atom 117 (.iadd) 1)))) (and (and (and (zk cX5_atom 118 (.putfield 27) 3) (zk cX5_atom 121 (.aload_n 0) 1)) (and (zk cX5_atom 122 (.bipush 121) 2) (zk cX5_atom 124 (.iload_n 3) 1))) (and (and (zk cX5_atom 125 (.invokevirtual 67) 3) (zk cX5_atom 128 (.iconst 1) 1)) (and (zk cX5_atom 129 (.ireturn) 1) (zk cX5_atom 109 (.iconst 0) 1))))) (and (and (and (and (zk cX5_atom 110 (.ireturn) 1) (zk cX5_atom 87 (.iload_n 2) 1)) (and (zk cX5_atom 88 (.ifCond .ne 7) 3) (zk cX5_atom 95 (.aload_n 0) 1))) (and (and (zk cX5_atom 96 (.getfield 19) 3) (zk cX5_atom 99 (.iload_n 2) 1)) (and (zk cX5_atom 100 (.i2c) 1) (zk cX5_atom 101 (.invokevirtual 84) 3)))) (and (and (and (zk cX5_atom 91 (.iconst (-1)) 1) (zk cX5_atom 92 (.goto 12) 3)) (and (zk cX5_atom 52 (.iload_n 2) 1) (zk cX5_atom 53 (.bipush 48) 2))) (and (and (zk cX5_atom 55 (.if_icmp .lt 32) 3) (zk cX5_atom 58 (.iload_n 2) 1)) (and (zk cX5_atom 59 (.bipush 57) 2) (zk cX5_atom 61 (.if_icmp .gt 26) 3)))))) = true := by decide +kernel
theorem dX5_atom_104 : decode cX5_atom 104 = .ok (.istore_n 3, 1) := zk_of (zk_l (zk_l (zk_l (zk_l (zk_l zdX5_atom_104)))))
theorem dX5_atom_105 : decode cX5_atom 105 = .ok (.iload_n 3, 1) := zk_of (zk_r (zk_l (zk_l (zk_l (zk_l zdX5_atom_104)))))
theorem dX5_atom_106 : decode cX5_atom 106 = .ok (.ifCond .ge 5, 3) := zk_of (zk_l (zk_r (zk_l (zk_l (zk_l zdX5_atom_104)))))
theorem dX5_atom_111 : decode cX5_atom 111 = .ok (.aload_n 0, 1) := zk_of (zk_r (zk_r (zk_l (zk_l (zk_l zdX5_atom_104)))))
theorem dX5_atom_112 : decode cX5_atom 112 = .ok (.dup, 1) := zk_of (zk_l (zk_l (zk_r (zk_l (zk_l zdX5_atom_104)))))
theorem dX5_atom_113 : decode cX5_atom 113 = .ok (.getfield 27, 3) := zk_of (zk_r (zk_l (zk_r (zk_l (zk_l zdX5_atom_104)))))
theorem dX5_atom_116 : decode cX5_atom 116 = .ok (.iconst 1, 1) := zk_of (zk_l (zk_r (zk_r (zk_l (zk_l zdX5_atom_104)))))
theorem dX5_atom_117 : decode cX5_atom 117 = .ok (.iadd, 1) := zk_of (zk_r (zk_r (zk_r (zk_l (zk_l zdX5_atom_104)))))
theorem dX5_atom_118 : decode cX5_atom 118 = .ok (.putfield 27, 3) := zk_of (zk_l (zk_l (zk_l (zk_r (zk_l zdX5_atom_104)))))
theorem dX5_atom_121 : decode cX5_atom 121 = .ok (.aload_n 0, 1) := zk_of (zk_r (zk_l (zk_l (zk_r (zk_l zdX5_atom_104)))))
theorem dX5_atom_122 : decode cX5_atom 122 = .ok (.bipush 121, 2) := zk_of (zk_l (zk_r (zk_l (zk_r (zk_l zdX5_atom_104)))))
theorem dX5_atom_124 : decode cX5_atom 124 = .ok (.iload_n 3, 1) := zk_of (zk_r (zk_r (zk_l (zk_r (zk_l zdX5_atom_104)))))
theorem dX5_atom_125 : decode cX5_atom 125 = .ok (.invokevirtual 67, 3) := zk_of (zk_l (zk_l (zk_r (zk_r (zk_l zdX5_atom_104)))))
theorem dX5_atom_128 : decode cX5_atom 128 = .ok (.iconst 1, 1) := zk_of (zk_r (zk_l (zk_r (zk_r (zk_l zdX5_atom_104)))))
theorem dX5_atom_129 : decode cX5_atom 129 = .ok (.ireturn, 1) := zk_of (zk_l (zk_r (zk_r (zk_r (zk_l zdX5_atom_104)))))
theorem dX5_atom_109 : decode cX5_atom 109 = .ok (.iconst 0, 1) := zk_of (zk_r (zk_r (zk_r (zk_r (zk_l zdX5_atom_104)))))
theorem dX5_atom_110 : decode cX5_atom 110 = .ok (.ireturn, 1) := zk_of (zk_l (zk_l (zk_l (zk_l (zk_r zdX5_atom_104)))))
theorem dX5_atom_87 : decode cX5_atom 87 = .ok (.iload_n 2, 1) := zk_of (zk_r (zk_l (zk_l (zk_l (zk_r zdX5_atom_104)))))
theorem dX5_atom_88 : decode cX5_atom 88 = .ok (.ifCond .ne 7, 3) := zk_of (zk_l (zk_r (zk_l (zk_l (zk_r zdX5_atom_104)))))
theorem dX5_atom_95 : decode cX5_atom 95 = .ok (.aload_n 0, 1) := zk_of (zk_r (zk_r (zk_l (zk_l (zk_r zdX5_atom_104)))))
theorem dX5_atom_96 : decode cX5_atom 96 = .ok (.getfield 19, 3) := zk_of (zk_l (zk_l (zk_r (zk_l (zk_r zdX5_atom_104)))))
theorem dX5_atom_99 : decode cX5_atom 99 = .ok (.iload_n 2, 1) := zk_of (zk_r (zk_l (zk_r (zk_l (zk_r zdX5_atom_104)))))
theorem dX5_atom_100 : decode cX5_atom 100 = .ok (.i2c, 1) := zk_of (zk_l (zk_r (zk_r (zk_l (zk_r zdX5_atom_104)))))
theorem dX5_atom_101 : decode cX5_atom 101 = .ok (.invokevirtual 84, 3) := zk_of (zk_r (zk_r (zk_r (zk_l (zk_r zdX5_atom_104)))))
theorem dX5_atom_91 : decode cX5_atom 91 = .ok (.iconst (-1), 1) := zk_of (zk_l (zk_l (zk_l (zk_r (zk_r zdX5_atom_104)))))
theorem dX5_atom_92 : decode cX5_atom 92 = .ok (.goto 12, 3) := zk_of (zk_r (zk_l (zk_l (zk_r (zk_r zdX5_atom_104)))))
theorem dX5_atom_52 : decode cX5_atom 52 = .ok (.iload_n 2, 1) := zk_of (zk_l (zk_r (zk_l (zk_r (zk_r zdX5_atom_104)))))
theorem dX5_atom_53 : decode cX5_atom 53 = .ok (.bipush 48, 2) := zk_of (zk_r (zk_r (zk_l (zk_r (zk_r zdX5_atom_104)))))
theorem dX5_atom_55 : decode cX5_atom 55 = .ok (.if_icmp .lt 32, 3) := zk_of (zk_l (zk_l (zk_r (zk_r (zk_r zdX5_atom_104)))))
theorem dX5_atom_58 : decode cX5_atom 58 = .ok (.iload_n 2, 1) := zk_of (zk_r (zk_l (zk_r (zk_r (zk_r zdX5_atom_104)))))
theorem dX5_atom_59 : decode cX5_atom 59 = .ok (.bipush 57, 2) := zk_of (zk_l (zk_r (zk_r (zk_r (zk_r zdX5_atom_104)))))
theorem dX5_atom_61 : decode cX5_atom 61 = .ok (.if_icmp .gt 26, 3) := zk_of (zk_r (zk_r (zk_r (zk_r (zk_r zdX5_atom_104)))))
set_option maxRecDepth 20000 in
theorem ggX5_atom_X5_emit : GoodIn wsX5_atom wsX5_emit := goodIn_r _ [25, 26, 27, 121, 122, 123, 124, 125] rfl (by decide +kernel)
set_option maxRecDepth 20000 in
theorem gX5_atom_X5_emit : GoodIn wsX5_atom (wsV RX5 67 RX5 yX5_emit wsX5_emit) := goodIn_app (goodIn_of _ (by decide +kernel)) ggX5_atom_X5_emit
set_option maxRecDepth 20000 in
theorem ggX5_atom_J0_indexOf_0f7a4 : GoodIn wsX5_atom wsJ0_indexOf_0f7a4 := goodIn_r _ [32, 33, 34, 35, 31, 36, 37, 38, 39, 40, 41, 42, 43, 44, 45, 46, 47, 48, 49, 50, 51, 52, 53, 54, 55, 56, 57, 58, 59, 60, 61, 62, 63, 64, 65, 66, 67, 68, 69, 70, 71, 72, 73, 74, 75, 76, 77, 78, 79, 80, 81, 82, 83, 84, 85, 86, 87, 88, 89, 90, 91, 92, 93, 94, 95, 96, 97, 98, 99, 100, 101, 102, 103, 104, 105, 106, 107, 108, 109, 110, 111, 112, 113, 114, 115, 116] rfl (by decide +kernel)
set_option maxRecDepth 20000 in
theorem gX5_atom_J0_indexOf_0f7a4 : GoodIn wsX5_atom (wsV RX5 84 RJ0 yJ0_indexOf_0f7a4 wsJ0_indexOf_0f7a4) := goodIn_app (goodIn_of _ (by decide +kernel)) ggX5_atom_J0_indexOf_0f7a4
theorem zdX5_atom_64 : (and (and (and (and (and (zk cX5_atom 64 (.aload_n 0) 1) (zk cX5_atom 65 (.invokevirtual 81) 3)) (and (zk cX5_atom 68 (.istore_n 3) 1) (zk cX5_atom 69 (.aload_n 0) 1))) (and (and (zk cX5_atom 70 (.bipush 48) 2) (zk cX5_atom 72 (.iload_n 3) 1)) (and (zk cX5_atom 73 (.invokevirtual 67) 3) (zk cX5_atom 76 (.iload_n 3) 1)))) (and (and (and (zk cX5_atom 77 (.iconst (-1)) 1) (zk cX5_atom 78 (.if_icmp .eq 7) 3)) (and (zk cX5_atom 85 (.iconst 0) 1) (zk cX5_atom 86 (.ireturn) 1))) (and (and (zk cX5_atom 81 (.iconst 1) 1) (zk cX5_atom 82 (.goto 4) 3)) (and (zk cX5_atom 0 (.aload_n 0) 1) (zk cX5_atom 1 (.invokevirtual 45) 3))))) (and (and (and (and (zk cX5_atom 4 (.istore_n 2) 1) (zk cX5_atom 5 (.iload_n 2) 1)) (and (zk cX5_atom 6 (.bipush 91) 2) (zk cX5_atom 8 (.if_icmp .ne 44) 3))) (and (and (zk cX5_atom 11 (.iload_n 1) 1) (zk cX5_atom 12 (.bipush 6) 2)) (and (zk cX5_atom 14 (.if_icmp .ge 38) 3) (zk cX5_atom 17 (.aload_n 0) 1)))) (and (and (and (zk cX5_atom 18 (.dup) 1) (zk cX5_atom 19 (.getfield 27) 3)) (and (zk cX5_atom 22 (.iconst 1) 1) (zk cX5_atom 23 (.iadd) 1))) (and (and (zk cX5_atom 24 (.putfield 27) 3) (zk cX5_atom 27 (.aload_n 0) 1)) (and (zk cX5_atom 28 (.iload_n 1) 1) (zk cX5_atom 29 (.iconst 1) 1)))))) = true := by decide +kernel
theorem dX5_atom_64 : decode cX5_atom 64 = .ok (.aload_n 0, 1) := zk_of (zk_l (zk_l (zk_l (zk_l (zk_l zdX5_atom_64)))))
theorem dX5_atom_65 : decode cX5_atom 65 = .ok (.invokevirtual 81, 3) := zk_of (zk_r (zk_l (zk_l (zk_l (zk_l zdX5_atom_64)))))
theorem dX5_atom_68 : decode cX5_atom 68 = .ok (.istore_n 3, 1) := zk_of (zk_l (zk_r (zk_l (zk_l (zk_l zdX5_atom_64)))))
theorem dX5_atom_69 : decode cX5_atom 69 = .ok (.aload_n 0, 1) := zk_of (zk_r (zk_r (zk_l (zk_l (zk_l zdX5_atom_64)))))
theorem dX5_atom_70 : decode cX5_atom 70 = .ok (.bipush 48, 2) := zk_of (zk_l (zk_l (zk_r (zk_l (zk_l zdX5_atom_64)))))
theorem dX5_atom_72 : decode cX5_atom 72 = .ok (.iload_n 3, 1) := zk_of (zk_r (zk_l (zk_r (zk_l (zk_l zdX5_atom_64)))))
theorem dX5_atom_73 : decode cX5_atom 73 = .ok (.invokevirtual 67, 3) := zk_of (zk_l (zk_r (zk_r (zk_l (zk_l zdX5_atom_64)))))
theorem dX5_atom_76 : decode cX5_atom 76 = .ok (.iload_n 3, 1) := zk_of (zk_r (zk_r (zk_r (zk_l (zk_l zdX5_atom_64)))))
theorem dX5_atom_77 : decode cX5_atom 77 = .ok (.iconst (-1), 1) := zk_of (zk_l (zk_l (zk_l (zk_r (zk_l zdX5_atom_64)))))
theorem dX5_atom_78 : decode cX5_atom 78 = .ok (.if_icmp .eq 7, 3) := zk_of (zk_r (zk_l (zk_l (zk_r (zk_l zdX5_atom_64)))))
theorem dX5_atom_85 : decode cX5_atom 85 = .ok (.iconst 0, 1) := zk_of (zk_l (zk_r (zk_l (zk_r (zk_l zdX5_atom_64)))))
theorem dX5_atom_86 : decode cX5_atom 86 = .ok (.ireturn, 1) := zk_of (zk_r (zk_r (zk_l (zk_r (zk_l zdX5_atom_64)))))
theorem dX5_atom_81 : decode cX5_atom 81 = .ok (.iconst 1, 1) := zk_of (zk_l (zk_l (zk_r (zk_r (zk_l zdX5_atom_64)))))
theorem dX5_atom_82 : decode cX5_atom 82 = .ok (.goto 4, 3) := zk_of (zk_r (zk_l (zk_r (zk_r (zk_l zdX5_atom_64)))))
theorem dX5_atom_0 : decode cX5_atom 0 = .ok (.aload_n 0, 1) := zk_of (zk_l (zk_r (zk_r (zk_r (zk_l zdX5_atom_64)))))
theorem dX5_atom_1 : decode cX5_atom 1 = .ok (.invokevirtual 45, 3) := zk_of (zk_r (zk_r (zk_r (zk_r (zk_l zdX5_atom_64)))))
theorem dX5_atom_4 : decode cX5_atom 4 = .ok (.istore_n 2, 1) := zk_of (zk_l (zk_l (zk_l (zk_l (zk_r zdX5_atom_64)))))
theorem dX5_atom_5 : decode cX5_atom 5 = .ok (.iload_n 2, 1) := zk_of (zk_r (zk_l (zk_l (zk_l (zk_r zdX5_atom_64)))))
theorem dX5_atom_6 : decode cX5_atom 6 = .ok (.bipush 91, 2) := zk_of (zk_l (zk_r (zk_l (zk_l (zk_r zdX5_atom_64)))))
theorem dX5_atom_8 : decode cX5_atom 8 = .ok (.if_icmp .ne 44, 3) := zk_of (zk_r (zk_r (zk_l (zk_l (zk_r zdX5_atom_64)))))
theorem dX5_atom_11 : decode cX5_atom 11 = .ok (.iload_n 1, 1) := zk_of (zk_l (zk_l (zk_r (zk_l (zk_r zdX5_atom_64)))))
theorem dX5_atom_12 : decode cX5_atom 12 = .ok (.bipush 6, 2) := zk_of (zk_r (zk_l (zk_r (zk_l (zk_r zdX5_atom_64)))))
theorem dX5_atom_14 : decode cX5_atom 14 = .ok (.if_icmp .ge 38, 3) := zk_of (zk_l (zk_r (zk_r (zk_l (zk_r zdX5_atom_64)))))
theorem dX5_atom_17 : decode cX5_atom 17 = .ok (.aload_n 0, 1) := zk_of (zk_r (zk_r (zk_r (zk_l (zk_r zdX5_atom_64)))))
theorem dX5_atom_18 : decode cX5_atom 18 = .ok (.dup, 1) := zk_of (zk_l (zk_l (zk_l (zk_r (zk_r zdX5_atom_64)))))
theorem dX5_atom_19 : decode cX5_atom 19 = .ok (.getfield 27, 3) := zk_of (zk_r (zk_l (zk_l (zk_r (zk_r zdX5_atom_64)))))
theorem dX5_atom_22 : decode cX5_atom 22 = .ok (.iconst 1, 1) := zk_of (zk_l (zk_r (zk_l (zk_r (zk_r zdX5_atom_64)))))
theorem dX5_atom_23 : decode cX5_atom 23 = .ok (.iadd, 1) := zk_of (zk_r (zk_r (zk_l (zk_r (zk_r zdX5_atom_64)))))
theorem dX5_atom_24 : decode cX5_atom 24 = .ok (.putfield 27, 3) := zk_of (zk_l (zk_l (zk_r (zk_r (zk_r zdX5_atom_64)))))
theorem dX5_atom_27 : decode cX5_atom 27 = .ok (.aload_n 0, 1) := zk_of (zk_r (zk_l (zk_r (zk_r (zk_r zdX5_atom_64)))))
theorem dX5_atom_28 : decode cX5_atom 28 = .ok (.iload_n 1, 1) := zk_of (zk_l (zk_r (zk_r (zk_r (zk_r zdX5_atom_64)))))
theorem dX5_atom_29 : decode cX5_atom 29 = .ok (.iconst 1, 1) := zk_of (zk_r (zk_r (zk_r (zk_r (zk_r zdX5_atom_64)))))
set_option maxRecDepth 20000 in
theorem ggX5_atom_X5_number : GoodIn wsX5_atom wsX5_number := goodIn_r _ [21, 1, 8, 9, 10, 121, 122, 123, 124, 125, 126, 127] rfl (by decide +kernel)
set_option maxRecDepth 20000 in
theorem gX5_atom_X5_number : GoodIn wsX5_atom (wsV RX5 81 RX5 yX5_number wsX5_number) := goodIn_app (goodIn_of _ (by decide +kernel)) ggX5_atom_X5_number
set_option maxRecDepth 20000 in
theorem ggX5_atom_X5_peek : GoodIn wsX5_atom wsX5_peek := goodIn_r _ [7, 1, 8, 9, 10, 121, 122, 123, 124, 125, 126, 127] rfl (by decide +kernel)
set_option maxRecDepth 20000 in
theorem gX5_atom_X5_peek : GoodIn wsX5_atom (wsV RX5 45 RX5 yX5_peek wsX5_peek) := goodIn_app (goodIn_of _ (by decide +kernel)) ggX5_atom_X5_peek
theorem zdX5_atom_30 : (and (and (and (and (zk cX5_atom 30 (.iadd) 1) (zk cX5_atom 31 (.invokevirtual 60) 3)) (zk cX5_atom 34 (.ifCond .eq 16) 3)) (and (and (zk cX5_atom 50 (.iconst 0) 1) (zk cX5_atom 51 (.ireturn) 1)) (zk cX5_atom 37 (.aload_n 0) 1))) (and (and (and (zk cX5_atom 38 (.bipush 93) 2) (zk cX5_atom 40 (.invokevirtual 41) 3)) (zk cX5_atom 43 (.ifCond .eq 7) 3)) (and (zk cX5_atom 46 (.iconst 1) 1) (zk cX5_atom 47 (.goto 4) 3)))) = true := by decide +kernel
theorem dX5_atom_30 : decode cX5_atom 30 = .ok (.iadd, 1) := zk_of (zk_l (zk_l (zk_l (zk_l zdX5_atom_30))))
theorem dX5_atom_31 : decode cX5_atom 31 = .ok (.invokevirtual 60, 3) := zk_of (zk_r (zk_l (zk_l (zk_l zdX5_atom_30))))
theorem dX5_atom_34 : decode cX5_atom 34 = .ok (.ifCond .eq 16, 3) := zk_of (zk_r (zk_l (zk_l zdX5_atom_30)))
theorem dX5_atom_50 : decode cX5_atom 50 = .ok (.iconst 0, 1) := zk_of (zk_l (zk_l (zk_r (zk_l zdX5_atom_30))))
theorem dX5_atom_51 : decode cX5_atom 51 = .ok (.ireturn, 1) := zk_of (zk_r (zk_l (zk_r (zk_l zdX5_atom_30))))
theorem dX5_atom_37 : decode cX5_atom 37 = .ok (.aload_n 0, 1) := zk_of (zk_r (zk_r (zk_l zdX5_atom_30)))
theorem dX5_atom_38 : decode cX5_atom 38 = .ok (.bipush 93, 2) := zk_of (zk_l (zk_l (zk_l (zk_r zdX5_atom_30))))
theorem dX5_atom_40 : decode cX5_atom 40 = .ok (.invokevirtual 41, 3) := zk_of (zk_r (zk_l (zk_l (zk_r zdX5_atom_30))))
theorem dX5_atom_43 : decode cX5_atom 43 = .ok (.ifCond .eq 7, 3) := zk_of (zk_r (zk_l (zk_r zdX5_atom_30)))
theorem dX5_atom_46 : decode cX5_atom 46 = .ok (.iconst 1, 1) := zk_of (zk_l (zk_r (zk_r zdX5_atom_30)))
theorem dX5_atom_47 : decode cX5_atom 47 = .ok (.goto 4, 3) := zk_of (zk_r (zk_r (zk_r zdX5_atom_30)))
set_option maxRecDepth 20000 in
theorem ggX5_atom_X5_total : GoodIn wsX5_atom wsX5_total := goodIn_r _ [117, 8, 9, 1, 118, 119, 120, 6, 22, 23, 24, 25, 26, 27, 3, 4, 5, 7, 10, 0, 2, 11, 12, 13, 14, 15, 16, 17, 18, 19, 20, 21, 28, 29, 30, 31, 32, 33, 34, 35, 36, 37, 38, 39, 40, 41, 42, 43, 44, 45, 46, 47, 48, 49, 50, 51, 52, 53, 54, 55, 56, 57, 58, 59, 60, 61, 62, 63, 64, 65, 66, 67, 68, 69, 70, 71, 72, 73, 74, 75, 76, 77, 78, 79, 80, 81, 82, 83, 84, 85, 86, 87, 88, 89, 90, 91, 92, 93, 94, 95, 96, 97, 98, 99, 100, 101, 102, 103, 104, 105, 106, 107, 108, 109, 110, 111, 112, 113, 114, 115, 116, 121, 122, 123, 124, 125, 126, 127] rfl (by decide +kernel)
set_option maxRecDepth 20000 in
theorem gX5_atom_X5_total : GoodIn wsX5_atom (wsV RX5 60 RX5 yX5_total wsX5_total) := goodIn_app (goodIn_of _ (by decide +kernel)) ggX5_atom_X5_total
set_option maxRecDepth 20000 in
theorem ggX5_atom_X5_takes : GoodIn wsX5_atom wsX5_takes := goodIn_r _ [17, 1, 3, 4, 5, 6, 7, 8, 9, 10, 121, 122, 123, 124, 125, 126, 127] rfl (by decide +kernel)
set_option maxRecDepth 20000 in
theorem gX5_atom_X5_takes : GoodIn wsX5_atom (wsV RX5 41 RX5 yX5_takes wsX5_takes) := goodIn_app (goodIn_of _ (by decide +kernel)) ggX5_atom_X5_takes
/-- HissHorn$Parser.atom(I)Z of cell 2 -/
theorem hX5_atom_2_X5 : ∀ w ∈ u_ws RX5 TX5 5, w ∈ wsX5_atom := fun w h => (List.mem_cons_of_mem _ (List.mem_append_left _ (List.mem_append_right _ h)))
theorem mX5_atom_2_1 : Cond.fieldLink RX5 19 "HissHorn$Parser" "letters" "Ljava/lang/String;" ∈ wsX5_atom := (List.mem_cons_of_mem _ (List.mem_append_left _ (List.mem_append_left _ (List.mem_append_left _ (List.mem_of_getElem? (i := 1) rfl)))))
theorem mX5_atom_2_2 : Cond.fieldLink RX5 27 "HissHorn$Parser" "at" "I" ∈ wsX5_atom := (List.mem_cons_of_mem _ (List.mem_append_left _ (List.mem_append_left _ (List.mem_append_left _ (List.mem_of_getElem? (i := 0) rfl)))))
def GX5_atom_2_104 (rc : Nat → Int32 → Int32 → SX → Option (Int32 × SX)) (y0 : Int32) (u : SX) : Option (Int32 × SX) := (if 0 ≤ y0 then (lt (sI u 4 ((u.1 4) + 1)) fun u7 => ((fX5_emit_2 121 y0 u7).bind fun q => match q with | (r9, u10) => (gd (isB 1) (some (1, u10))))) else (gd (isB 0) (some (0, u))))
def GX5_atom_2_87 (rc : Nat → Int32 → Int32 → SX → Option (Int32 × SX)) (z2 : Int32) (u : SX) : Option (Int32 × SX) := (if z2 = 0 then (GX5_atom_2_104 rc (-1) u) else (if u.1 3 = 0 then ((fJ0_indexOf_0f7a4_s0 ((z2.toUInt32 % 65536).toInt32)).bind fun r4 => (GX5_atom_2_104 rc r4 u)) else (if u.1 3 = 1 then ((fJ0_indexOf_0f7a4_s1 ((z2.toUInt32 % 65536).toInt32)).bind fun r14 => (GX5_atom_2_104 rc r14 u)) else (if u.1 3 = 2 then ((fJ0_indexOf_0f7a4_s2 ((z2.toUInt32 % 65536).toInt32)).bind fun r17 => (GX5_atom_2_104 rc r17 u)) else (if u.1 3 = 3 then ((fJ0_indexOf_0f7a4_s3 ((z2.toUInt32 % 65536).toInt32)).bind fun r20 => (GX5_atom_2_104 rc r20 u)) else none)))))
def GX5_atom_2_52 (rc : Nat → Int32 → Int32 → SX → Option (Int32 × SX)) (z2 : Int32) (u : SX) : Option (Int32 × SX) := (if z2 < 48 then (GX5_atom_2_87 rc z2 u) else (if 57 < z2 then (GX5_atom_2_87 rc z2 u) else ((fX5_number_2  u).bind fun q => match q with | (r23, u24) => ((fX5_emit_2 48 r23 u24).bind fun q => match q with | (r26, u27) => (if r23 = (-1) then (gd (isB 0) (some (0, u27))) else (gd (isB 1) (some (1, u27))))))))
def fX5_atom_2 (rc : Nat → Int32 → Int32 → SX → Option (Int32 × SX)) (x1 : Int32) (u : SX) : Option (Int32 × SX) := ((fX5_peek_2  u).bind fun q => match q with | (r1, u2) => (if r1 = 91 then (if 6 ≤ x1 then (GX5_atom_2_52 rc r1 u2) else (lt (sI u2 4 ((u2.1 4) + 1)) fun u31 => ((rc 2 (x1 + 1) 0 u31).bind fun q => match q with | (r33, u34) => (if r33 = 0 then (gd (isB 0) (some (0, u34))) else ((fX5_takes_2 93 u34).bind fun q => match q with | (r37, u38) => (if r37 = 0 then (gd (isB 0) (some (0, u38))) else (gd (isB 1) (some (1, u38))))))))) else (GX5_atom_2_52 rc r1 u2)))
set_option maxHeartbeats 4000000 in
set_option maxRecDepth 100000 in
theorem wGX5_atom_2_104 {p : Program} {l : Launch} {e : Env} {s : State} {m : MethodId} {args : Array Value} {below : List Frame} {meth : Method} {c : Code} {D : va_G} {cy : Nat → ClassId} {ad st : Nat → Nat} (C : Cx RX5 cX5_atom 4 (some .boolean) wsX5_atom p s m args meth c) (hK : Ky D [(cy 0, .int), (cy 1, .long), (cy 2, .boolean), (cy 3, .byte), (cy 4, .object "HissHorn$Text")] st s) (hJ : JX ad st) {rc : Nat → Int32 → Int32 → SX → Option (Int32 × SX)} {dd : Nat} (hrc : hRX5conditiong l D cy ad st rc dd) {r : Int32} {u' : SX}   (y0 : Int32) (u : SX) (H : Heap) (locs : List Loc) (ls : Array Slot) (h : GX5_atom_2_104 rc y0 u = some (r, u')) (hP : va_P D vwCl (VX cy ad st u) H) (hS : va_S (Ax (AX ad) s.heap.size) s.heap H locs) (hl : lv_has ls 4 [(0, .ref (ad 2))]) : W p l e (rmX5conditiong (dd + 1)) s m args below meth c H locs 0 0 (MQ below (Qi D (VX cy ad st) (AX ad) s.heap.size r u') args s 0 0 (Ax (AX ad) s.heap.size)) (F0 m 104 ls [.int y0]) := by
  unfold GX5_atom_2_104 at h
  refine lv_istore_n (lv' := [(3, .int y0), (0, .ref (ad 2))]) C.1 C.2.1 dX5_atom_104 rfl hl (by decide) rfl (fun ls hl => ?_)
  replace hl := lv_sub (l' := [(0, .ref (ad 2)), (3, .int y0)]) hl [1, 0] rfl
  refine lv_iload_n C.1 C.2.1 dX5_atom_105 rfl (lv_at hl 1 rfl) ?_
  refine lv_if_ge (tgt := 111) C.1 C.2.1 dX5_atom_106 (by decide) (fun c106 => ?_) (fun c106 => ?_)
  · rw [if_pos c106] at h
    refine lv_aload_n C.1 C.2.1 dX5_atom_111 rfl (lv_at hl 0 rfl) ?_
    refine lv_dup C.1 C.2.1 dX5_atom_112 rfl ?_
    refine gX_2_at C hX5_atom_2_X5 hK hP mX5_atom_2_2 dX5_atom_113 ?_
    refine lv_iconst (v := 1) C.1 C.2.1 dX5_atom_116 (by decide) ?_
    refine lv_iadd C.1 C.2.1 dX5_atom_117 ?_
    refine pX_2_at C hX5_atom_2_X5 hK hP hJ hS mX5_atom_2_2 dX5_atom_118 (fun H locs hP hS => ?_)
    obtain ⟨u7, hu8, h⟩ := lt_some h
    rw [← hu8] at hP
    refine lv_aload_n C.1 C.2.1 dX5_atom_121 rfl (lv_at hl 0 rfl) ?_
    refine lv_bipush (v := 121) C.1 C.2.1 dX5_atom_122 (by decide) ?_
    refine lv_iload_n C.1 C.2.1 dX5_atom_124 rfl (lv_at hl 1 rfl) ?_
    obtain ⟨⟨r9, u10⟩, hc11, h⟩ := bd_some h
    try dsimp only at h
    refine cg_v (As := [.int 121, .int y0]) (rest := []) (AX_ge hJ) C hK hP hS (metX5_emit_2 l D cy ad st hJ _ 121 y0 hc11) (cwV 2 C.2.2.2.2.2.1 gX5_atom_X5_emit rfl rfl rfl (by decide +kernel) ⟨(Nat.le_trans (m := 4) (Nat.le_of_ble_eq_true rfl) (rmX5conditiong_f _)), (Nat.le_trans (m := 91) (Nat.le_of_ble_eq_true rfl) (rmX5conditiong_l _))⟩) 2 5 rfl rfl rfl hl.1 rfl (Nat.le_of_ble_eq_true rfl) dX5_atom_125 ⟨Nat.zero_le _, Nat.zero_le _⟩ (fun H locs hP hS => ?_)
    refine lv_iconst (v := 1) C.1 C.2.1 dX5_atom_128 (by decide) ?_
    obtain ⟨hg12, h⟩ := gd_some h
    cases h
    exact rt_z hg12 C hP hS dX5_atom_129
  · rw [if_neg c106] at h
    refine lv_iconst (v := 0) C.1 C.2.1 dX5_atom_109 (by decide) ?_
    obtain ⟨hg13, h⟩ := gd_some h
    cases h
    exact rt_z hg13 C hP hS dX5_atom_110
set_option maxHeartbeats 4000000 in
set_option maxRecDepth 100000 in
theorem wGX5_atom_2_87 {p : Program} {l : Launch} {e : Env} {s : State} {m : MethodId} {args : Array Value} {below : List Frame} {meth : Method} {c : Code} {D : va_G} {cy : Nat → ClassId} {ad st : Nat → Nat} (C : Cx RX5 cX5_atom 4 (some .boolean) wsX5_atom p s m args meth c) (hK : Ky D [(cy 0, .int), (cy 1, .long), (cy 2, .boolean), (cy 3, .byte), (cy 4, .object "HissHorn$Text")] st s) (hJ : JX ad st) {rc : Nat → Int32 → Int32 → SX → Option (Int32 × SX)} {dd : Nat} (hrc : hRX5conditiong l D cy ad st rc dd) {r : Int32} {u' : SX}   (z2 : Int32) (u : SX) (H : Heap) (locs : List Loc) (ls : Array Slot) (h : GX5_atom_2_87 rc z2 u = some (r, u')) (hP : va_P D vwCl (VX cy ad st u) H) (hS : va_S (Ax (AX ad) s.heap.size) s.heap H locs) (hl : lv_has ls 4 [(0, .ref (ad 2)), (2, .int z2)]) : W p l e (rmX5conditiong (dd + 1)) s m args below meth c H locs 0 0 (MQ below (Qi D (VX cy ad st) (AX ad) s.heap.size r u') args s 0 0 (Ax (AX ad) s.heap.size)) (F0 m 87 ls []) := by
  unfold GX5_atom_2_87 at h
  refine lv_iload_n C.1 C.2.1 dX5_atom_87 rfl (lv_at hl 1 rfl) ?_
  refine lv_if_ne (tgt := 95) C.1 C.2.1 dX5_atom_88 (by decide) (fun c88 => ?_) (fun c88 => ?_)
  · rw [if_neg c88] at h
    refine lv_aload_n C.1 C.2.1 dX5_atom_95 rfl (lv_at hl 0 rfl) ?_
    refine gX_2_letters C hX5_atom_2_X5 hK hP mX5_atom_2_1 dX5_atom_96 ?_
    by_cases c96_0 : u.1 3 = 0
    · rw [if_pos c96_0] at h
      refine W.eq (g2 := F0 m 99 ls [.ref (st 0)]) (by rw [c96_0]; rfl) ?_
      refine lv_iload_n C.1 C.2.1 dX5_atom_99 rfl (lv_at hl 1 rfl) ?_
      refine lv_i2c (v := (z2.toUInt32 % 65536).toInt32) C.1 C.2.1 dX5_atom_100 rfl ?_
      obtain ⟨r4, hc6, h⟩ := bd_some h
      refine cz_i (kz := 0) (by decide) (As := [.int ((z2.toUInt32 % 65536).toInt32)]) (rest := []) (AX_ge hJ) C hK hP hS (metJ0_indexOf_0f7a4_s0 l D cy st _ ((z2.toUInt32 % 65536).toInt32) hc6) (cwV 1 C.2.2.2.2.2.1 gX5_atom_J0_indexOf_0f7a4 rfl rfl rfl (by decide +kernel) ⟨(Nat.le_trans (m := 4) (Nat.le_of_ble_eq_true rfl) (rmX5conditiong_f _)), (Nat.le_trans (m := 91) (Nat.le_of_ble_eq_true rfl) (rmX5conditiong_l _))⟩) rfl hl.1 rfl (Nat.le_of_ble_eq_true rfl) dX5_atom_101 ⟨Nat.zero_le _, Nat.zero_le _⟩ (fun H locs hP hS => ?_)
      exact wGX5_atom_2_104 C hK hJ hrc _ _ _ _ _ h hP hS (lv_sub hl [0] rfl)
    · rw [if_neg c96_0] at h
      by_cases c96_1 : u.1 3 = 1
      · rw [if_pos c96_1] at h
        refine W.eq (g2 := F0 m 99 ls [.ref (st 1)]) (by rw [c96_1]; rfl) ?_
        refine lv_iload_n C.1 C.2.1 dX5_atom_99 rfl (lv_at hl 1 rfl) ?_
        refine lv_i2c (v := (z2.toUInt32 % 65536).toInt32) C.1 C.2.1 dX5_atom_100 rfl ?_
        obtain ⟨r14, hc16, h⟩ := bd_some h
        refine cz_i (kz := 1) (by decide) (As := [.int ((z2.toUInt32 % 65536).toInt32)]) (rest := []) (AX_ge hJ) C hK hP hS (metJ0_indexOf_0f7a4_s1 l D cy st _ ((z2.toUInt32 % 65536).toInt32) hc16) (cwV 1 C.2.2.2.2.2.1 gX5_atom_J0_indexOf_0f7a4 rfl rfl rfl (by decide +kernel) ⟨(Nat.le_trans (m := 4) (Nat.le_of_ble_eq_true rfl) (rmX5conditiong_f _)), (Nat.le_trans (m := 91) (Nat.le_of_ble_eq_true rfl) (rmX5conditiong_l _))⟩) rfl hl.1 rfl (Nat.le_of_ble_eq_true rfl) dX5_atom_101 ⟨Nat.zero_le _, Nat.zero_le _⟩ (fun H locs hP hS => ?_)
        exact wGX5_atom_2_104 C hK hJ hrc _ _ _ _ _ h hP hS (lv_sub hl [0] rfl)
      · rw [if_neg c96_1] at h
        by_cases c96_2 : u.1 3 = 2
        · rw [if_pos c96_2] at h
          refine W.eq (g2 := F0 m 99 ls [.ref (st 2)]) (by rw [c96_2]; rfl) ?_
          refine lv_iload_n C.1 C.2.1 dX5_atom_99 rfl (lv_at hl 1 rfl) ?_
          refine lv_i2c (v := (z2.toUInt32 % 65536).toInt32) C.1 C.2.1 dX5_atom_100 rfl ?_
          obtain ⟨r17, hc19, h⟩ := bd_some h
          refine cz_i (kz := 2) (by decide) (As := [.int ((z2.toUInt32 % 65536).toInt32)]) (rest := []) (AX_ge hJ) C hK hP hS (metJ0_indexOf_0f7a4_s2 l D cy st _ ((z2.toUInt32 % 65536).toInt32) hc19) (cwV 1 C.2.2.2.2.2.1 gX5_atom_J0_indexOf_0f7a4 rfl rfl rfl (by decide +kernel) ⟨(Nat.le_trans (m := 4) (Nat.le_of_ble_eq_true rfl) (rmX5conditiong_f _)), (Nat.le_trans (m := 91) (Nat.le_of_ble_eq_true rfl) (rmX5conditiong_l _))⟩) rfl hl.1 rfl (Nat.le_of_ble_eq_true rfl) dX5_atom_101 ⟨Nat.zero_le _, Nat.zero_le _⟩ (fun H locs hP hS => ?_)
          exact wGX5_atom_2_104 C hK hJ hrc _ _ _ _ _ h hP hS (lv_sub hl [0] rfl)
        · rw [if_neg c96_2] at h
          by_cases c96_3 : u.1 3 = 3
          · rw [if_pos c96_3] at h
            refine W.eq (g2 := F0 m 99 ls [.ref (st 3)]) (by rw [c96_3]; rfl) ?_
            refine lv_iload_n C.1 C.2.1 dX5_atom_99 rfl (lv_at hl 1 rfl) ?_
            refine lv_i2c (v := (z2.toUInt32 % 65536).toInt32) C.1 C.2.1 dX5_atom_100 rfl ?_
            obtain ⟨r20, hc22, h⟩ := bd_some h
            refine cz_i (kz := 3) (by decide) (As := [.int ((z2.toUInt32 % 65536).toInt32)]) (rest := []) (AX_ge hJ) C hK hP hS (metJ0_indexOf_0f7a4_s3 l D cy st _ ((z2.toUInt32 % 65536).toInt32) hc22) (cwV 1 C.2.2.2.2.2.1 gX5_atom_J0_indexOf_0f7a4 rfl rfl rfl (by decide +kernel) ⟨(Nat.le_trans (m := 4) (Nat.le_of_ble_eq_true rfl) (rmX5conditiong_f _)), (Nat.le_trans (m := 91) (Nat.le_of_ble_eq_true rfl) (rmX5conditiong_l _))⟩) rfl hl.1 rfl (Nat.le_of_ble_eq_true rfl) dX5_atom_101 ⟨Nat.zero_le _, Nat.zero_le _⟩ (fun H locs hP hS => ?_)
            exact wGX5_atom_2_104 C hK hJ hrc _ _ _ _ _ h hP hS (lv_sub hl [0] rfl)
          · rw [if_neg c96_3] at h
            exact absurd h (by intro q; cases q)
  · rw [if_pos c88] at h
    refine lv_iconst (v := (-1)) C.1 C.2.1 dX5_atom_91 (by decide) ?_
    refine lv_goto (tgt := 104) C.1 C.2.1 dX5_atom_92 (by decide) ?_
    exact wGX5_atom_2_104 C hK hJ hrc _ _ _ _ _ h hP hS (lv_sub hl [0] rfl)
set_option maxHeartbeats 4000000 in
set_option maxRecDepth 100000 in
theorem wGX5_atom_2_52 {p : Program} {l : Launch} {e : Env} {s : State} {m : MethodId} {args : Array Value} {below : List Frame} {meth : Method} {c : Code} {D : va_G} {cy : Nat → ClassId} {ad st : Nat → Nat} (C : Cx RX5 cX5_atom 4 (some .boolean) wsX5_atom p s m args meth c) (hK : Ky D [(cy 0, .int), (cy 1, .long), (cy 2, .boolean), (cy 3, .byte), (cy 4, .object "HissHorn$Text")] st s) (hJ : JX ad st) {rc : Nat → Int32 → Int32 → SX → Option (Int32 × SX)} {dd : Nat} (hrc : hRX5conditiong l D cy ad st rc dd) {r : Int32} {u' : SX}   (z2 : Int32) (u : SX) (H : Heap) (locs : List Loc) (ls : Array Slot) (h : GX5_atom_2_52 rc z2 u = some (r, u')) (hP : va_P D vwCl (VX cy ad st u) H) (hS : va_S (Ax (AX ad) s.heap.size) s.heap H locs) (hl : lv_has ls 4 [(0, .ref (ad 2)), (2, .int z2)]) : W p l e (rmX5conditiong (dd + 1)) s m args below meth c H locs 0 0 (MQ below (Qi D (VX cy ad st) (AX ad) s.heap.size r u') args s 0 0 (Ax (AX ad) s.heap.size)) (F0 m 52 ls []) := by
  unfold GX5_atom_2_52 at h
  refine lv_iload_n C.1 C.2.1 dX5_atom_52 rfl (lv_at hl 1 rfl) ?_
  refine lv_bipush (v := 48) C.1 C.2.1 dX5_atom_53 (by decide) ?_
  refine lv_icmp_lt (tgt := 87) C.1 C.2.1 dX5_atom_55 (by decide) (fun c55 => ?_) (fun c55 => ?_)
  · rw [if_pos c55] at h
    exact wGX5_atom_2_87 C hK hJ hrc _ _ _ _ _ h hP hS hl
  · rw [if_neg c55] at h
    refine lv_iload_n C.1 C.2.1 dX5_atom_58 rfl (lv_at hl 1 rfl) ?_
    refine lv_bipush (v := 57) C.1 C.2.1 dX5_atom_59 (by decide) ?_
    refine lv_icmp_gt (tgt := 87) C.1 C.2.1 dX5_atom_61 (by decide) (fun c61 => ?_) (fun c61 => ?_)
    · rw [if_pos c61] at h
      exact wGX5_atom_2_87 C hK hJ hrc _ _ _ _ _ h hP hS hl
    · rw [if_neg c61] at h
      refine lv_aload_n C.1 C.2.1 dX5_atom_64 rfl (lv_at hl 0 rfl) ?_
      obtain ⟨⟨r23, u24⟩, hc25, h⟩ := bd_some h
      try dsimp only at h
      refine cg_i (As := []) (rest := []) (AX_ge hJ) C hK hP hS (metX5_number_2 l D cy ad st hJ _  hc25) (cwV 0 C.2.2.2.2.2.1 gX5_atom_X5_number rfl rfl rfl (by decide +kernel) ⟨(Nat.le_trans (m := 4) (Nat.le_of_ble_eq_true rfl) (rmX5conditiong_f _)), (Nat.le_trans (m := 91) (Nat.le_of_ble_eq_true rfl) (rmX5conditiong_l _))⟩) 2 5 rfl rfl rfl hl.1 rfl (Nat.le_of_ble_eq_true rfl) dX5_atom_65 ⟨Nat.zero_le _, Nat.zero_le _⟩ (fun H locs hP hS => ?_)
      refine lv_istore_n (lv' := [(3, .int r23), (0, .ref (ad 2)), (2, .int z2)]) C.1 C.2.1 dX5_atom_68 rfl hl (by decide) rfl (fun ls hl => ?_)
      replace hl := lv_sub (l' := [(0, .ref (ad 2)), (2, .int z2), (3, .int r23)]) hl [1, 2, 0] rfl
      refine lv_aload_n C.1 C.2.1 dX5_atom_69 rfl (lv_at hl 0 rfl) ?_
      refine lv_bipush (v := 48) C.1 C.2.1 dX5_atom_70 (by decide) ?_
      refine lv_iload_n C.1 C.2.1 dX5_atom_72 rfl (lv_at hl 2 rfl) ?_
      obtain ⟨⟨r26, u27⟩, hc28, h⟩ := bd_some h
      try dsimp only at h
      refine cg_v (As := [.int 48, .int r23]) (rest := []) (AX_ge hJ) C hK hP hS (metX5_emit_2 l D cy ad st hJ _ 48 r23 hc28) (cwV 2 C.2.2.2.2.2.1 gX5_atom_X5_emit rfl rfl rfl (by decide +kernel) ⟨(Nat.le_trans (m := 4) (Nat.le_of_ble_eq_true rfl) (rmX5conditiong_f _)), (Nat.le_trans (m := 91) (Nat.le_of_ble_eq_true rfl) (rmX5conditiong_l _))⟩) 2 5 rfl rfl rfl hl.1 rfl (Nat.le_of_ble_eq_true rfl) dX5_atom_73 ⟨Nat.zero_le _, Nat.zero_le _⟩ (fun H locs hP hS => ?_)
      refine lv_iload_n C.1 C.2.1 dX5_atom_76 rfl (lv_at hl 2 rfl) ?_
      refine lv_iconst (v := (-1)) C.1 C.2.1 dX5_atom_77 (by decide) ?_
      refine lv_icmp_eq (tgt := 85) C.1 C.2.1 dX5_atom_78 (by decide) (fun c78 => ?_) (fun c78 => ?_)
      · rw [if_pos c78] at h
        refine lv_iconst (v := 0) C.1 C.2.1 dX5_atom_85 (by decide) ?_
        obtain ⟨hg29, h⟩ := gd_some h
        cases h
        exact rt_z hg29 C hP hS dX5_atom_86
      · rw [if_neg c78] at h
        refine lv_iconst (v := 1) C.1 C.2.1 dX5_atom_81 (by decide) ?_
        refine lv_goto (tgt := 86) C.1 C.2.1 dX5_atom_82 (by decide) ?_
        obtain ⟨hg30, h⟩ := gd_some h
        cases h
        exact rt_z hg30 C hP hS dX5_atom_86
set_option maxHeartbeats 4000000 in
set_option maxRecDepth 100000 in
theorem wX5_atom_2 {p : Program} {l : Launch} {e : Env} {s : State} {m : MethodId} {args : Array Value} {below : List Frame} {meth : Method} {c : Code} {D : va_G} {cy : Nat → ClassId} {ad st : Nat → Nat} (C : Cx RX5 cX5_atom 4 (some .boolean) wsX5_atom p s m args meth c) (hK : Ky D [(cy 0, .int), (cy 1, .long), (cy 2, .boolean), (cy 3, .byte), (cy 4, .object "HissHorn$Text")] st s) (hJ : JX ad st) {rc : Nat → Int32 → Int32 → SX → Option (Int32 × SX)} {dd : Nat} (hrc : hRX5conditiong l D cy ad st rc dd) (x1 : Int32) {u : SX} {r : Int32} {u' : SX} {H : Heap} {locs : List Loc} {ls : Array Slot} (h : fX5_atom_2 rc x1 u = some (r, u')) (hP : va_P D vwCl (VX cy ad st u) H) (hS : va_S (Ax (AX ad) s.heap.size) s.heap H locs) (hl : lv_has ls 4 [(0, .ref (ad 2)), (1, .int x1)]) : W p l e (rmX5conditiong (dd + 1)) s m args below meth c H locs 0 0 (MQ below (Qi D (VX cy ad st) (AX ad) s.heap.size r u') args s 0 0 (Ax (AX ad) s.heap.size)) (F0 m 0 ls []) := by
  unfold fX5_atom_2 at h
  refine lv_aload_n C.1 C.2.1 dX5_atom_0 rfl (lv_at hl 0 rfl) ?_
  obtain ⟨⟨r1, u2⟩, hc3, h⟩ := bd_some h
  try dsimp only at h
  refine cg_i (As := []) (rest := []) (AX_ge hJ) C hK hP hS (metX5_peek_2 l D cy ad st hJ _  hc3) (cwV 0 C.2.2.2.2.2.1 gX5_atom_X5_peek rfl rfl rfl (by decide +kernel) ⟨(Nat.le_trans (m := 4) (Nat.le_of_ble_eq_true rfl) (rmX5conditiong_f _)), (Nat.le_trans (m := 91) (Nat.le_of_ble_eq_true rfl) (rmX5conditiong_l _))⟩) 2 5 rfl rfl rfl hl.1 rfl (Nat.le_of_ble_eq_true rfl) dX5_atom_1 ⟨Nat.zero_le _, Nat.zero_le _⟩ (fun H locs hP hS => ?_)
  refine lv_istore_n (lv' := [(2, .int r1), (0, .ref (ad 2)), (1, .int x1)]) C.1 C.2.1 dX5_atom_4 rfl hl (by decide) rfl (fun ls hl => ?_)
  replace hl := lv_sub (l' := [(0, .ref (ad 2)), (1, .int x1), (2, .int r1)]) hl [1, 2, 0] rfl
  refine lv_iload_n C.1 C.2.1 dX5_atom_5 rfl (lv_at hl 2 rfl) ?_
  refine lv_bipush (v := 91) C.1 C.2.1 dX5_atom_6 (by decide) ?_
  refine lv_icmp_ne (tgt := 52) C.1 C.2.1 dX5_atom_8 (by decide) (fun c8 => ?_) (fun c8 => ?_)
  · rw [if_neg c8] at h
    exact wGX5_atom_2_52 C hK hJ hrc _ _ _ _ _ h hP hS (lv_sub hl [0, 2] rfl)
  · rw [if_pos c8] at h
    refine lv_iload_n C.1 C.2.1 dX5_atom_11 rfl (lv_at hl 1 rfl) ?_
    refine lv_bipush (v := 6) C.1 C.2.1 dX5_atom_12 (by decide) ?_
    refine lv_icmp_ge (tgt := 52) C.1 C.2.1 dX5_atom_14 (by decide) (fun c14 => ?_) (fun c14 => ?_)
    · rw [if_pos c14] at h
      exact wGX5_atom_2_52 C hK hJ hrc _ _ _ _ _ h hP hS (lv_sub hl [0, 2] rfl)
    · rw [if_neg c14] at h
      refine lv_aload_n C.1 C.2.1 dX5_atom_17 rfl (lv_at hl 0 rfl) ?_
      refine lv_dup C.1 C.2.1 dX5_atom_18 rfl ?_
      refine gX_2_at C hX5_atom_2_X5 hK hP mX5_atom_2_2 dX5_atom_19 ?_
      refine lv_iconst (v := 1) C.1 C.2.1 dX5_atom_22 (by decide) ?_
      refine lv_iadd C.1 C.2.1 dX5_atom_23 ?_
      refine pX_2_at C hX5_atom_2_X5 hK hP hJ hS mX5_atom_2_2 dX5_atom_24 (fun H locs hP hS => ?_)
      obtain ⟨u31, hu32, h⟩ := lt_some h
      rw [← hu32] at hP
      refine lv_aload_n C.1 C.2.1 dX5_atom_27 rfl (lv_at hl 0 rfl) ?_
      refine lv_iload_n C.1 C.2.1 dX5_atom_28 rfl (lv_at hl 1 rfl) ?_
      refine lv_iconst (v := 1) C.1 C.2.1 dX5_atom_29 (by decide) ?_
      refine lv_iadd C.1 C.2.1 dX5_atom_30 ?_
      obtain ⟨⟨r33, u34⟩, hc35, h⟩ := bd_some h
      try dsimp only at h
      refine cg_i (As := [.int (x1 + 1)]) (rest := []) (AX_ge hJ) C hK hP hS (hrc.2.2.1 _ (x1 + 1) _ _ _ hc35) (cwV 1 C.2.2.2.2.2.1 gX5_atom_X5_total rfl rfl rfl (by decide +kernel) ⟨rmX5conditiong_sf dd, rmX5conditiong_sl dd (k := 8 + (6 + 11)) (Nat.le_of_ble_eq_true rfl)⟩) 2 5 rfl rfl rfl hl.1 rfl (Nat.le_of_ble_eq_true rfl) dX5_atom_31 ⟨Nat.zero_le _, Nat.zero_le _⟩ (fun H locs hP hS => ?_)
      refine lv_if_eq (tgt := 50) C.1 C.2.1 dX5_atom_34 (by decide) (fun c34 => ?_) (fun c34 => ?_)
      · rw [if_pos c34] at h
        refine lv_iconst (v := 0) C.1 C.2.1 dX5_atom_50 (by decide) ?_
        obtain ⟨hg36, h⟩ := gd_some h
        cases h
        exact rt_z hg36 C hP hS dX5_atom_51
      · rw [if_neg c34] at h
        refine lv_aload_n C.1 C.2.1 dX5_atom_37 rfl (lv_at hl 0 rfl) ?_
        refine lv_bipush (v := 93) C.1 C.2.1 dX5_atom_38 (by decide) ?_
        obtain ⟨⟨r37, u38⟩, hc39, h⟩ := bd_some h
        try dsimp only at h
        refine cg_i (As := [.int 93]) (rest := []) (AX_ge hJ) C hK hP hS (metX5_takes_2 l D cy ad st hJ _ 93 hc39) (cwV 1 C.2.2.2.2.2.1 gX5_atom_X5_takes rfl rfl rfl (by decide +kernel) ⟨(Nat.le_trans (m := 4) (Nat.le_of_ble_eq_true rfl) (rmX5conditiong_f _)), (Nat.le_trans (m := 91) (Nat.le_of_ble_eq_true rfl) (rmX5conditiong_l _))⟩) 2 5 rfl rfl rfl hl.1 rfl (Nat.le_of_ble_eq_true rfl) dX5_atom_40 ⟨Nat.zero_le _, Nat.zero_le _⟩ (fun H locs hP hS => ?_)
        refine lv_if_eq (tgt := 50) C.1 C.2.1 dX5_atom_43 (by decide) (fun c43 => ?_) (fun c43 => ?_)
        · rw [if_pos c43] at h
          refine lv_iconst (v := 0) C.1 C.2.1 dX5_atom_50 (by decide) ?_
          obtain ⟨hg40, h⟩ := gd_some h
          cases h
          exact rt_z hg40 C hP hS dX5_atom_51
        · rw [if_neg c43] at h
          refine lv_iconst (v := 1) C.1 C.2.1 dX5_atom_46 (by decide) ?_
          refine lv_goto (tgt := 51) C.1 C.2.1 dX5_atom_47 (by decide) ?_
          obtain ⟨hg41, h⟩ := gd_some h
          cases h
          exact rt_z hg41 C hP hS dX5_atom_51
theorem metX5_atom_2 (l : Launch) (D : va_G) (cy : Nat → ClassId) (ad st : Nat → Nat) (hJ : JX ad st) {rc : Nat → Int32 → Int32 → SX → Option (Int32 × SX)} {dd : Nat} (hrc : hRX5conditiong l D cy ad st rc dd) (sz : Nat) (x1 : Int32) {u : SX} {r : Int32} {u' : SX} (h : fX5_atom_2 rc x1 u = some (r, u')) : Met l yX5_atom wsX5_atom (rmX5conditiong (dd + 1)) (va_Pc [.ref (ad 2), .int x1] (Px D [(cy 0, .int), (cy 1, .long), (cy 2, .boolean), (cy 3, .byte), (cy 4, .object "HissHorn$Text")] st (VX cy ad st) sz u)) (Qi D (VX cy ad st) (AX ad) sz r u') 0 0 (Ax (AX ad) sz) := by
  refine Met.ofW (cc := cX5_atom) (maxL := 4) (ret := (some .boolean)) (by decide) rfl ?_
  intro p e s m args below meth c s₁ B hml hv
  obtain ⟨rfl, hsz, hP, hK⟩ := hv
  subst hsz
  have C : Cx RX5 cX5_atom 4 (some .boolean) wsX5_atom p s m _ meth c := ⟨B.exec, B.bytes, hml, B.returns, findClass_of_methodNamed B.named, atoms_spec (ws := wsX5_atom) B.pre, B.notSynchronized⟩
  have hl := lv_entry ([.ref (ad 2), .int x1]) (n := 4) (Nat.le_of_ble_eq_true rfl)
  rw [lg_entry_eq]
  exact wX5_atom_2 C hK hJ hrc x1 h hP va_S.rf hl

def rX5conditiong : Nat → Nat → Int32 → Int32 → SX → Option (Int32 × SX)
  | 0, _, _, _, _ => none
  | d + 1, t, a0, a1, u => (if t = 0 then fX5_condition_2 (rX5conditiong d) a0 a1 u else (if t = 1 then fX5_unit_2 (rX5conditiong d) a0 a1 u else (if t = 2 then fX5_total_2 (rX5conditiong d) a0 u else (if t = 3 then fX5_atom_2 (rX5conditiong d) a0 u else none))))
theorem hRX5conditiong_all (l : Launch) (D : va_G) (cy : Nat → ClassId) (ad st : Nat → Nat) (hJ : JX ad st) : ∀ d, hRX5conditiong l D cy ad st (rX5conditiong d) d := by
  intro d
  induction d with
  | zero =>
    refine ⟨?_, ?_, ?_, ?_⟩
    · intro sz x1 x2 u r u' h
      exact absurd h (by intro q; cases q)
    · intro sz x1 x2 u r u' h
      exact absurd h (by intro q; cases q)
    · intro sz x1 u r u' h
      exact absurd h (by intro q; cases q)
    · intro sz x1 u r u' h
      exact absurd h (by intro q; cases q)
  | succ d ih =>
    refine ⟨?_, ?_, ?_, ?_⟩
    · intro sz x1 x2 u r u' h
      rw [rX5conditiong] at h
      rw [if_pos rfl] at h
      exact metX5_condition_2 l D cy ad st hJ ih sz x1 x2 h
    · intro sz x1 x2 u r u' h
      rw [rX5conditiong] at h
      rw [if_neg (by decide)] at h; rw [if_pos rfl] at h
      exact metX5_unit_2 l D cy ad st hJ ih sz x1 x2 h
    · intro sz x1 u r u' h
      rw [rX5conditiong] at h
      rw [if_neg (by decide)] at h; rw [if_neg (by decide)] at h; rw [if_pos rfl] at h
      exact metX5_total_2 l D cy ad st hJ ih sz x1 h
    · intro sz x1 u r u' h
      rw [rX5conditiong] at h
      rw [if_neg (by decide)] at h; rw [if_neg (by decide)] at h; rw [if_neg (by decide)] at h; rw [if_pos rfl] at h
      exact metX5_atom_2 l D cy ad st hJ ih sz x1 h

theorem zdX5_clause_76 : (and (and (and (and (and (zk cX5_clause 76 (.aload_n 0) 1) (zk cX5_clause 77 (.iconst 0) 1)) (and (zk cX5_clause 78 (.iload_n 2) 1) (zk cX5_clause 79 (.invokevirtual 71) 3))) (and (and (zk cX5_clause 82 (.ifCond .eq 12) 3) (zk cX5_clause 94 (.iconst 0) 1)) (and (zk cX5_clause 95 (.ireturn) 1) (zk cX5_clause 85 (.aload_n 0) 1)))) (and (and (and (zk cX5_clause 86 (.bipush 63) 2) (zk cX5_clause 88 (.invokevirtual 41) 3)) (and (zk cX5_clause 91 (.ifCond .ne 5) 3) (zk cX5_clause 96 (.aload_n 0) 1))) (and (and (zk cX5_clause 97 (.bipush 63) 2) (zk cX5_clause 99 (.iconst 0) 1)) (and (zk cX5_clause 100 (.invokevirtual 67) 3) (zk cX5_clause 103 (.aload_n 0) 1))))) (and (and (and (and (zk cX5_clause 104 (.iconst 0) 1) (zk cX5_clause 105 (.invokevirtual 60) 3)) (and (zk cX5_clause 108 (.ifCond .ne 5) 3) (zk cX5_clause 113 (.aload_n 0) 1))) (and (and (zk cX5_clause 114 (.bipush 59) 2) (zk cX5_clause 116 (.iconst 0) 1)) (and (zk cX5_clause 117 (.invokevirtual 67) 3) (zk cX5_clause 120 (.iconst 1) 1)))) (and (and (and (zk cX5_clause 121 (.ireturn) 1) (zk cX5_clause 111 (.iconst 0) 1)) (and (zk cX5_clause 112 (.ireturn) 1) (zk cX5_clause 42 (.istore_n 2) 1))) (and (and (zk cX5_clause 43 (.iload_n 2) 1) (zk cX5_clause 44 (.ifCond .eq 32) 3)) (and (zk cX5_clause 47 (.aload_n 0) 1) (zk cX5_clause 48 (.iconst 0) 1)))))) = true := by decide +kernel
theorem dX5_clause_76 : decode cX5_clause 76 = .ok (.aload_n 0, 1) := zk_of (zk_l (zk_l (zk_l (zk_l (zk_l zdX5_clause_76)))))
theorem dX5_clause_77 : decode cX5_clause 77 = .ok (.iconst 0, 1) := zk_of (zk_r (zk_l (zk_l (zk_l (zk_l zdX5_clause_76)))))
theorem dX5_clause_78 : decode cX5_clause 78 = .ok (.iload_n 2, 1) := zk_of (zk_l (zk_r (zk_l (zk_l (zk_l zdX5_clause_76)))))
theorem dX5_clause_79 : decode cX5_clause 79 = .ok (.invokevirtual 71, 3) := zk_of (zk_r (zk_r (zk_l (zk_l (zk_l zdX5_clause_76)))))
theorem dX5_clause_82 : decode cX5_clause 82 = .ok (.ifCond .eq 12, 3) := zk_of (zk_l (zk_l (zk_r (zk_l (zk_l zdX5_clause_76)))))
theorem dX5_clause_94 : decode cX5_clause 94 = .ok (.iconst 0, 1) := zk_of (zk_r (zk_l (zk_r (zk_l (zk_l zdX5_clause_76)))))
theorem dX5_clause_95 : decode cX5_clause 95 = .ok (.ireturn, 1) := zk_of (zk_l (zk_r (zk_r (zk_l (zk_l zdX5_clause_76)))))
theorem dX5_clause_85 : decode cX5_clause 85 = .ok (.aload_n 0, 1) := zk_of (zk_r (zk_r (zk_r (zk_l (zk_l zdX5_clause_76)))))
theorem dX5_clause_86 : decode cX5_clause 86 = .ok (.bipush 63, 2) := zk_of (zk_l (zk_l (zk_l (zk_r (zk_l zdX5_clause_76)))))
theorem dX5_clause_88 : decode cX5_clause 88 = .ok (.invokevirtual 41, 3) := zk_of (zk_r (zk_l (zk_l (zk_r (zk_l zdX5_clause_76)))))
theorem dX5_clause_91 : decode cX5_clause 91 = .ok (.ifCond .ne 5, 3) := zk_of (zk_l (zk_r (zk_l (zk_r (zk_l zdX5_clause_76)))))
theorem dX5_clause_96 : decode cX5_clause 96 = .ok (.aload_n 0, 1) := zk_of (zk_r (zk_r (zk_l (zk_r (zk_l zdX5_clause_76)))))
theorem dX5_clause_97 : decode cX5_clause 97 = .ok (.bipush 63, 2) := zk_of (zk_l (zk_l (zk_r (zk_r (zk_l zdX5_clause_76)))))
theorem dX5_clause_99 : decode cX5_clause 99 = .ok (.iconst 0, 1) := zk_of (zk_r (zk_l (zk_r (zk_r (zk_l zdX5_clause_76)))))
theorem dX5_clause_100 : decode cX5_clause 100 = .ok (.invokevirtual 67, 3) := zk_of (zk_l (zk_r (zk_r (zk_r (zk_l zdX5_clause_76)))))
theorem dX5_clause_103 : decode cX5_clause 103 = .ok (.aload_n 0, 1) := zk_of (zk_r (zk_r (zk_r (zk_r (zk_l zdX5_clause_76)))))
theorem dX5_clause_104 : decode cX5_clause 104 = .ok (.iconst 0, 1) := zk_of (zk_l (zk_l (zk_l (zk_l (zk_r zdX5_clause_76)))))
theorem dX5_clause_105 : decode cX5_clause 105 = .ok (.invokevirtual 60, 3) := zk_of (zk_r (zk_l (zk_l (zk_l (zk_r zdX5_clause_76)))))
theorem dX5_clause_108 : decode cX5_clause 108 = .ok (.ifCond .ne 5, 3) := zk_of (zk_l (zk_r (zk_l (zk_l (zk_r zdX5_clause_76)))))
theorem dX5_clause_113 : decode cX5_clause 113 = .ok (.aload_n 0, 1) := zk_of (zk_r (zk_r (zk_l (zk_l (zk_r zdX5_clause_76)))))
theorem dX5_clause_114 : decode cX5_clause 114 = .ok (.bipush 59, 2) := zk_of (zk_l (zk_l (zk_r (zk_l (zk_r zdX5_clause_76)))))
theorem dX5_clause_116 : decode cX5_clause 116 = .ok (.iconst 0, 1) := zk_of (zk_r (zk_l (zk_r (zk_l (zk_r zdX5_clause_76)))))
theorem dX5_clause_117 : decode cX5_clause 117 = .ok (.invokevirtual 67, 3) := zk_of (zk_l (zk_r (zk_r (zk_l (zk_r zdX5_clause_76)))))
theorem dX5_clause_120 : decode cX5_clause 120 = .ok (.iconst 1, 1) := zk_of (zk_r (zk_r (zk_r (zk_l (zk_r zdX5_clause_76)))))
theorem dX5_clause_121 : decode cX5_clause 121 = .ok (.ireturn, 1) := zk_of (zk_l (zk_l (zk_l (zk_r (zk_r zdX5_clause_76)))))
theorem dX5_clause_111 : decode cX5_clause 111 = .ok (.iconst 0, 1) := zk_of (zk_r (zk_l (zk_l (zk_r (zk_r zdX5_clause_76)))))
theorem dX5_clause_112 : decode cX5_clause 112 = .ok (.ireturn, 1) := zk_of (zk_l (zk_r (zk_l (zk_r (zk_r zdX5_clause_76)))))
theorem dX5_clause_42 : decode cX5_clause 42 = .ok (.istore_n 2, 1) := zk_of (zk_r (zk_r (zk_l (zk_r (zk_r zdX5_clause_76)))))
theorem dX5_clause_43 : decode cX5_clause 43 = .ok (.iload_n 2, 1) := zk_of (zk_l (zk_l (zk_r (zk_r (zk_r zdX5_clause_76)))))
theorem dX5_clause_44 : decode cX5_clause 44 = .ok (.ifCond .eq 32, 3) := zk_of (zk_r (zk_l (zk_r (zk_r (zk_r zdX5_clause_76)))))
theorem dX5_clause_47 : decode cX5_clause 47 = .ok (.aload_n 0, 1) := zk_of (zk_l (zk_r (zk_r (zk_r (zk_r zdX5_clause_76)))))
theorem dX5_clause_48 : decode cX5_clause 48 = .ok (.iconst 0, 1) := zk_of (zk_r (zk_r (zk_r (zk_r (zk_r zdX5_clause_76)))))
set_option maxRecDepth 20000 in
theorem ggX5_clause_X5_condition : GoodIn wsX5_clause wsX5_condition := goodIn_r _ [128, 11, 12, 6, 129, 130, 131, 4, 21, 22, 23, 24, 25, 26, 7, 8, 9, 10, 13, 132, 125, 126, 127, 1, 2, 3, 5, 14, 15, 16, 17, 18, 19, 20, 27, 28, 29, 30, 31, 32, 33, 34, 35, 36, 37, 38, 39, 40, 41, 42, 43, 44, 45, 46, 47, 48, 49, 50, 51, 52, 53, 54, 55, 56, 57, 58, 59, 60, 61, 62, 63, 64, 65, 66, 67, 68, 69, 70, 71, 72, 73, 74, 75, 76, 77, 78, 79, 80, 81, 82, 83, 84, 85, 86, 87, 88, 89, 90, 91, 92, 93, 94, 95, 96, 97, 98, 99, 100, 101, 102, 103, 104, 105, 106, 107, 108, 109, 110, 111, 112, 113, 114, 115, 116, 117, 118, 119, 120, 121, 122, 123, 124, 133, 134, 135, 136, 137, 138, 139] rfl (by decide +kernel)
set_option maxRecDepth 20000 in
theorem gX5_clause_X5_condition : GoodIn wsX5_clause (wsV RX5 71 RX5 yX5_condition wsX5_condition) := goodIn_app (goodIn_of _ (by decide +kernel)) ggX5_clause_X5_condition
set_option maxRecDepth 20000 in
theorem ggX5_clause_X5_takes : GoodIn wsX5_clause wsX5_takes := goodIn_r _ [5, 6, 7, 8, 9, 4, 10, 11, 12, 13, 133, 134, 135, 136, 137, 138, 139] rfl (by decide +kernel)
set_option maxRecDepth 20000 in
theorem gX5_clause_X5_takes : GoodIn wsX5_clause (wsV RX5 41 RX5 yX5_takes wsX5_takes) := goodIn_app (goodIn_of _ (by decide +kernel)) ggX5_clause_X5_takes
set_option maxRecDepth 20000 in
theorem ggX5_clause_X5_emit : GoodIn wsX5_clause wsX5_emit := goodIn_r _ [24, 25, 26, 133, 134, 135, 136, 137] rfl (by decide +kernel)
set_option maxRecDepth 20000 in
theorem gX5_clause_X5_emit : GoodIn wsX5_clause (wsV RX5 67 RX5 yX5_emit wsX5_emit) := goodIn_app (goodIn_of _ (by decide +kernel)) ggX5_clause_X5_emit
set_option maxRecDepth 20000 in
theorem ggX5_clause_X5_total : GoodIn wsX5_clause wsX5_total := goodIn_r _ [17, 11, 12, 6, 18, 19, 20, 4, 21, 22, 23, 24, 25, 26, 7, 8, 9, 10, 13, 27, 28, 14, 15, 16, 1, 2, 3, 5, 29, 30, 31, 32, 33, 34, 35, 36, 37, 38, 39, 40, 41, 42, 43, 44, 45, 46, 47, 48, 49, 50, 51, 52, 53, 54, 55, 56, 57, 58, 59, 60, 61, 62, 63, 64, 65, 66, 67, 68, 69, 70, 71, 72, 73, 74, 75, 76, 77, 78, 79, 80, 81, 82, 83, 84, 85, 86, 87, 88, 89, 90, 91, 92, 93, 94, 95, 96, 97, 98, 99, 100, 101, 102, 103, 104, 105, 106, 107, 108, 109, 110, 111, 112, 113, 114, 115, 116, 117, 118, 119, 120, 121, 133, 134, 135, 136, 137, 138, 139] rfl (by decide +kernel)
set_option maxRecDepth 20000 in
theorem gX5_clause_X5_total : GoodIn wsX5_clause (wsV RX5 60 RX5 yX5_total wsX5_total) := goodIn_app (goodIn_of _ (by decide +kernel)) ggX5_clause_X5_total
theorem zdX5_clause_49 : (and (and (and (and (and (zk cX5_clause 49 (.invokevirtual 60) 3) (zk cX5_clause 52 (.ifCond .ne 5) 3)) (and (zk cX5_clause 57 (.aload_n 0) 1) (zk cX5_clause 58 (.invokevirtual 45) 3))) (and (and (zk cX5_clause 61 (.invokestatic 64) 3) (zk cX5_clause 64 (.ifCond .ne 12) 3)) (and (zk cX5_clause 67 (.aload_n 0) 1) (zk cX5_clause 68 (.bipush 59) 2)))) (and (and (and (zk cX5_clause 70 (.iconst 0) 1) (zk cX5_clause 71 (.invokevirtual 67) 3)) (and (zk cX5_clause 74 (.iconst 1) 1) (zk cX5_clause 75 (.ireturn) 1))) (and (and (zk cX5_clause 55 (.iconst 0) 1) (zk cX5_clause 56 (.ireturn) 1)) (and (zk cX5_clause 41 (.iconst 0) 1) (zk cX5_clause 0 (.aload_n 0) 1))))) (and (and (and (and (zk cX5_clause 1 (.bipush 121) 2) (zk cX5_clause 3 (.invokevirtual 41) 3)) (and (zk cX5_clause 6 (.ifCond .eq 12) 3) (zk cX5_clause 18 (.iconst 0) 1))) (and (and (zk cX5_clause 19 (.ireturn) 1) (zk cX5_clause 9 (.aload_n 0) 1)) (and (zk cX5_clause 10 (.bipush 58) 2) (zk cX5_clause 12 (.invokevirtual 41) 3)))) (and (and (and (zk cX5_clause 15 (.ifCond .ne 5) 3) (zk cX5_clause 20 (.aload_n 0) 1)) (and (zk cX5_clause 21 (.invokevirtual 45) 3) (zk cX5_clause 24 (.istore_n 1) 1))) (and (and (zk cX5_clause 25 (.iload_n 1) 1) (zk cX5_clause 26 (.bipush 33) 2)) (and (zk cX5_clause 28 (.if_icmp .eq 13) 3) (zk cX5_clause 31 (.iload_n 1) 1)))))) = true := by decide +kernel
theorem dX5_clause_49 : decode cX5_clause 49 = .ok (.invokevirtual 60, 3) := zk_of (zk_l (zk_l (zk_l (zk_l (zk_l zdX5_clause_49)))))
theorem dX5_clause_52 : decode cX5_clause 52 = .ok (.ifCond .ne 5, 3) := zk_of (zk_r (zk_l (zk_l (zk_l (zk_l zdX5_clause_49)))))
theorem dX5_clause_57 : decode cX5_clause 57 = .ok (.aload_n 0, 1) := zk_of (zk_l (zk_r (zk_l (zk_l (zk_l zdX5_clause_49)))))
theorem dX5_clause_58 : decode cX5_clause 58 = .ok (.invokevirtual 45, 3) := zk_of (zk_r (zk_r (zk_l (zk_l (zk_l zdX5_clause_49)))))
theorem dX5_clause_61 : decode cX5_clause 61 = .ok (.invokestatic 64, 3) := zk_of (zk_l (zk_l (zk_r (zk_l (zk_l zdX5_clause_49)))))
theorem dX5_clause_64 : decode cX5_clause 64 = .ok (.ifCond .ne 12, 3) := zk_of (zk_r (zk_l (zk_r (zk_l (zk_l zdX5_clause_49)))))
theorem dX5_clause_67 : decode cX5_clause 67 = .ok (.aload_n 0, 1) := zk_of (zk_l (zk_r (zk_r (zk_l (zk_l zdX5_clause_49)))))
theorem dX5_clause_68 : decode cX5_clause 68 = .ok (.bipush 59, 2) := zk_of (zk_r (zk_r (zk_r (zk_l (zk_l zdX5_clause_49)))))
theorem dX5_clause_70 : decode cX5_clause 70 = .ok (.iconst 0, 1) := zk_of (zk_l (zk_l (zk_l (zk_r (zk_l zdX5_clause_49)))))
theorem dX5_clause_71 : decode cX5_clause 71 = .ok (.invokevirtual 67, 3) := zk_of (zk_r (zk_l (zk_l (zk_r (zk_l zdX5_clause_49)))))
theorem dX5_clause_74 : decode cX5_clause 74 = .ok (.iconst 1, 1) := zk_of (zk_l (zk_r (zk_l (zk_r (zk_l zdX5_clause_49)))))
theorem dX5_clause_75 : decode cX5_clause 75 = .ok (.ireturn, 1) := zk_of (zk_r (zk_r (zk_l (zk_r (zk_l zdX5_clause_49)))))
theorem dX5_clause_55 : decode cX5_clause 55 = .ok (.iconst 0, 1) := zk_of (zk_l (zk_l (zk_r (zk_r (zk_l zdX5_clause_49)))))
theorem dX5_clause_56 : decode cX5_clause 56 = .ok (.ireturn, 1) := zk_of (zk_r (zk_l (zk_r (zk_r (zk_l zdX5_clause_49)))))
theorem dX5_clause_41 : decode cX5_clause 41 = .ok (.iconst 0, 1) := zk_of (zk_l (zk_r (zk_r (zk_r (zk_l zdX5_clause_49)))))
theorem dX5_clause_0 : decode cX5_clause 0 = .ok (.aload_n 0, 1) := zk_of (zk_r (zk_r (zk_r (zk_r (zk_l zdX5_clause_49)))))
theorem dX5_clause_1 : decode cX5_clause 1 = .ok (.bipush 121, 2) := zk_of (zk_l (zk_l (zk_l (zk_l (zk_r zdX5_clause_49)))))
theorem dX5_clause_3 : decode cX5_clause 3 = .ok (.invokevirtual 41, 3) := zk_of (zk_r (zk_l (zk_l (zk_l (zk_r zdX5_clause_49)))))
theorem dX5_clause_6 : decode cX5_clause 6 = .ok (.ifCond .eq 12, 3) := zk_of (zk_l (zk_r (zk_l (zk_l (zk_r zdX5_clause_49)))))
theorem dX5_clause_18 : decode cX5_clause 18 = .ok (.iconst 0, 1) := zk_of (zk_r (zk_r (zk_l (zk_l (zk_r zdX5_clause_49)))))
theorem dX5_clause_19 : decode cX5_clause 19 = .ok (.ireturn, 1) := zk_of (zk_l (zk_l (zk_r (zk_l (zk_r zdX5_clause_49)))))
theorem dX5_clause_9 : decode cX5_clause 9 = .ok (.aload_n 0, 1) := zk_of (zk_r (zk_l (zk_r (zk_l (zk_r zdX5_clause_49)))))
theorem dX5_clause_10 : decode cX5_clause 10 = .ok (.bipush 58, 2) := zk_of (zk_l (zk_r (zk_r (zk_l (zk_r zdX5_clause_49)))))
theorem dX5_clause_12 : decode cX5_clause 12 = .ok (.invokevirtual 41, 3) := zk_of (zk_r (zk_r (zk_r (zk_l (zk_r zdX5_clause_49)))))
theorem dX5_clause_15 : decode cX5_clause 15 = .ok (.ifCond .ne 5, 3) := zk_of (zk_l (zk_l (zk_l (zk_r (zk_r zdX5_clause_49)))))
theorem dX5_clause_20 : decode cX5_clause 20 = .ok (.aload_n 0, 1) := zk_of (zk_r (zk_l (zk_l (zk_r (zk_r zdX5_clause_49)))))
theorem dX5_clause_21 : decode cX5_clause 21 = .ok (.invokevirtual 45, 3) := zk_of (zk_l (zk_r (zk_l (zk_r (zk_r zdX5_clause_49)))))
theorem dX5_clause_24 : decode cX5_clause 24 = .ok (.istore_n 1, 1) := zk_of (zk_r (zk_r (zk_l (zk_r (zk_r zdX5_clause_49)))))
theorem dX5_clause_25 : decode cX5_clause 25 = .ok (.iload_n 1, 1) := zk_of (zk_l (zk_l (zk_r (zk_r (zk_r zdX5_clause_49)))))
theorem dX5_clause_26 : decode cX5_clause 26 = .ok (.bipush 33, 2) := zk_of (zk_r (zk_l (zk_r (zk_r (zk_r zdX5_clause_49)))))
theorem dX5_clause_28 : decode cX5_clause 28 = .ok (.if_icmp .eq 13, 3) := zk_of (zk_l (zk_r (zk_r (zk_r (zk_r zdX5_clause_49)))))
theorem dX5_clause_31 : decode cX5_clause 31 = .ok (.iload_n 1, 1) := zk_of (zk_r (zk_r (zk_r (zk_r (zk_r zdX5_clause_49)))))
set_option maxRecDepth 20000 in
theorem ggX5_clause_X5_peek : GoodIn wsX5_clause wsX5_peek := goodIn_r _ [10, 6, 11, 12, 13, 133, 134, 135, 136, 137, 138, 139] rfl (by decide +kernel)
set_option maxRecDepth 20000 in
theorem gX5_clause_X5_peek : GoodIn wsX5_clause (wsV RX5 45 RX5 yX5_peek wsX5_peek) := goodIn_app (goodIn_of _ (by decide +kernel)) ggX5_clause_X5_peek
set_option maxRecDepth 20000 in
theorem ggX5_clause_X5_compares : GoodIn wsX5_clause wsX5_compares := goodIn_r _ [124] rfl (by decide +kernel)
set_option maxRecDepth 20000 in
theorem gX5_clause_X5_compares : GoodIn wsX5_clause (va_wsS RX5 64 yX5_compares wsX5_compares) := goodIn_app (goodIn_of _ (by decide +kernel)) ggX5_clause_X5_compares
theorem zdX5_clause_32 : (and (and (zk cX5_clause 32 (.bipush 40) 2) (zk cX5_clause 34 (.if_icmp .eq 7) 3)) (and (zk cX5_clause 37 (.iconst 1) 1) (zk cX5_clause 38 (.goto 4) 3))) = true := by decide +kernel
theorem dX5_clause_32 : decode cX5_clause 32 = .ok (.bipush 40, 2) := zk_of (zk_l (zk_l zdX5_clause_32))
theorem dX5_clause_34 : decode cX5_clause 34 = .ok (.if_icmp .eq 7, 3) := zk_of (zk_r (zk_l zdX5_clause_32))
theorem dX5_clause_37 : decode cX5_clause 37 = .ok (.iconst 1, 1) := zk_of (zk_l (zk_r zdX5_clause_32))
theorem dX5_clause_38 : decode cX5_clause 38 = .ok (.goto 4, 3) := zk_of (zk_r (zk_r zdX5_clause_32))
/-- HissHorn$Parser.clause()Z of cell 2 -/
def rmX5_clause_2 : Room := { frames := 69, cells := 0, slots := 0, locals := 4213 }
def GX5_clause_2_76 (z2 : Int32) (u : SX) : Option (Int32 × SX) := ((rX5conditiong 64 0 0 z2 u).bind fun q => match q with | (r11, u12) => (if r11 = 0 then (gd (isB 0) (some (0, u12))) else ((fX5_takes_2 63 u12).bind fun q => match q with | (r15, u16) => (if r15 = 0 then (gd (isB 0) (some (0, u16))) else ((fX5_emit_2 63 0 u16).bind fun q => match q with | (r18, u19) => ((rX5conditiong 64 2 0 0 u19).bind fun q => match q with | (r21, u22) => (if r21 = 0 then (gd (isB 0) (some (0, u22))) else ((fX5_emit_2 59 0 u22).bind fun q => match q with | (r24, u25) => (gd (isB 1) (some (1, u25)))))))))))
def GX5_clause_2_42 (y0 : Int32) (u : SX) : Option (Int32 × SX) := (if y0 = 0 then (GX5_clause_2_76 y0 u) else ((rX5conditiong 64 2 0 0 u).bind fun q => match q with | (r30, u31) => (if r30 = 0 then (gd (isB 0) (some (0, u31))) else ((fX5_peek_2  u31).bind fun q => match q with | (r33, u34) => ((fX5_compares r33).bind fun r36 => (if r36 = 0 then ((fX5_emit_2 59 0 u34).bind fun q => match q with | (r39, u40) => (gd (isB 1) (some (1, u40)))) else (GX5_clause_2_76 y0 u34)))))))
def GX5_clause_2_41  (u : SX) : Option (Int32 × SX) := (GX5_clause_2_42 0 u)
def fX5_clause_2  (u : SX) : Option (Int32 × SX) := ((fX5_takes_2 121 u).bind fun q => match q with | (r1, u2) => (if r1 = 0 then (gd (isB 0) (some (0, u2))) else ((fX5_takes_2 58 u2).bind fun q => match q with | (r5, u6) => (if r5 = 0 then (gd (isB 0) (some (0, u6))) else ((fX5_peek_2  u6).bind fun q => match q with | (r8, u9) => (if r8 = 33 then (GX5_clause_2_41 u9) else (if r8 = 40 then (GX5_clause_2_41 u9) else (GX5_clause_2_42 1 u9))))))))
set_option maxHeartbeats 4000000 in
set_option maxRecDepth 100000 in
theorem wGX5_clause_2_76 {p : Program} {l : Launch} {e : Env} {s : State} {m : MethodId} {args : Array Value} {below : List Frame} {meth : Method} {c : Code} {D : va_G} {cy : Nat → ClassId} {ad st : Nat → Nat} (C : Cx RX5 cX5_clause 3 (some .boolean) wsX5_clause p s m args meth c) (hK : Ky D [(cy 0, .int), (cy 1, .long), (cy 2, .boolean), (cy 3, .byte), (cy 4, .object "HissHorn$Text")] st s) (hJ : JX ad st) {r : Int32} {u' : SX}   (z2 : Int32) (u : SX) (H : Heap) (locs : List Loc) (ls : Array Slot) (h : GX5_clause_2_76 z2 u = some (r, u')) (hP : va_P D vwCl (VX cy ad st u) H) (hS : va_S (Ax (AX ad) s.heap.size) s.heap H locs) (hl : lv_has ls 3 [(0, .ref (ad 2)), (2, .int z2)]) : W p l e rmX5_clause_2 s m args below meth c H locs 0 0 (MQ below (Qi D (VX cy ad st) (AX ad) s.heap.size r u') args s 0 0 (Ax (AX ad) s.heap.size)) (F0 m 76 ls []) := by
  unfold GX5_clause_2_76 at h
  refine lv_aload_n C.1 C.2.1 dX5_clause_76 rfl (lv_at hl 0 rfl) ?_
  refine lv_iconst (v := 0) C.1 C.2.1 dX5_clause_77 (by decide) ?_
  refine lv_iload_n C.1 C.2.1 dX5_clause_78 rfl (lv_at hl 1 rfl) ?_
  obtain ⟨⟨r11, u12⟩, hc13, h⟩ := bd_some h
  try dsimp only at h
  refine cg_i (As := [.int 0, .int z2]) (rest := []) (AX_ge hJ) C hK hP hS ((hRX5conditiong_all l D cy ad st hJ 64).1 _ 0 z2 _ _ _ hc13) (cwV 2 C.2.2.2.2.2.1 gX5_clause_X5_condition rfl rfl rfl (by decide +kernel) ⟨(Nat.le_of_ble_eq_true rfl), (Nat.le_of_ble_eq_true rfl)⟩) 2 5 rfl rfl rfl hl.1 rfl (Nat.le_of_ble_eq_true rfl) dX5_clause_79 ⟨Nat.zero_le _, Nat.zero_le _⟩ (fun H locs hP hS => ?_)
  refine lv_if_eq (tgt := 94) C.1 C.2.1 dX5_clause_82 (by decide) (fun c82 => ?_) (fun c82 => ?_)
  · rw [if_pos c82] at h
    refine lv_iconst (v := 0) C.1 C.2.1 dX5_clause_94 (by decide) ?_
    obtain ⟨hg14, h⟩ := gd_some h
    cases h
    exact rt_z hg14 C hP hS dX5_clause_95
  · rw [if_neg c82] at h
    refine lv_aload_n C.1 C.2.1 dX5_clause_85 rfl (lv_at hl 0 rfl) ?_
    refine lv_bipush (v := 63) C.1 C.2.1 dX5_clause_86 (by decide) ?_
    obtain ⟨⟨r15, u16⟩, hc17, h⟩ := bd_some h
    try dsimp only at h
    refine cg_i (As := [.int 63]) (rest := []) (AX_ge hJ) C hK hP hS (metX5_takes_2 l D cy ad st hJ _ 63 hc17) (cwV 1 C.2.2.2.2.2.1 gX5_clause_X5_takes rfl rfl rfl (by decide +kernel) ⟨(Nat.le_of_ble_eq_true rfl), (Nat.le_of_ble_eq_true rfl)⟩) 2 5 rfl rfl rfl hl.1 rfl (Nat.le_of_ble_eq_true rfl) dX5_clause_88 ⟨Nat.zero_le _, Nat.zero_le _⟩ (fun H locs hP hS => ?_)
    refine lv_if_ne (tgt := 96) C.1 C.2.1 dX5_clause_91 (by decide) (fun c91 => ?_) (fun c91 => ?_)
    · rw [if_neg c91] at h
      refine lv_aload_n C.1 C.2.1 dX5_clause_96 rfl (lv_at hl 0 rfl) ?_
      refine lv_bipush (v := 63) C.1 C.2.1 dX5_clause_97 (by decide) ?_
      refine lv_iconst (v := 0) C.1 C.2.1 dX5_clause_99 (by decide) ?_
      obtain ⟨⟨r18, u19⟩, hc20, h⟩ := bd_some h
      try dsimp only at h
      refine cg_v (As := [.int 63, .int 0]) (rest := []) (AX_ge hJ) C hK hP hS (metX5_emit_2 l D cy ad st hJ _ 63 0 hc20) (cwV 2 C.2.2.2.2.2.1 gX5_clause_X5_emit rfl rfl rfl (by decide +kernel) ⟨(Nat.le_of_ble_eq_true rfl), (Nat.le_of_ble_eq_true rfl)⟩) 2 5 rfl rfl rfl hl.1 rfl (Nat.le_of_ble_eq_true rfl) dX5_clause_100 ⟨Nat.zero_le _, Nat.zero_le _⟩ (fun H locs hP hS => ?_)
      refine lv_aload_n C.1 C.2.1 dX5_clause_103 rfl (lv_at hl 0 rfl) ?_
      refine lv_iconst (v := 0) C.1 C.2.1 dX5_clause_104 (by decide) ?_
      obtain ⟨⟨r21, u22⟩, hc23, h⟩ := bd_some h
      try dsimp only at h
      refine cg_i (As := [.int 0]) (rest := []) (AX_ge hJ) C hK hP hS ((hRX5conditiong_all l D cy ad st hJ 64).2.2.1 _ 0 _ _ _ hc23) (cwV 1 C.2.2.2.2.2.1 gX5_clause_X5_total rfl rfl rfl (by decide +kernel) ⟨(Nat.le_of_ble_eq_true rfl), (Nat.le_of_ble_eq_true rfl)⟩) 2 5 rfl rfl rfl hl.1 rfl (Nat.le_of_ble_eq_true rfl) dX5_clause_105 ⟨Nat.zero_le _, Nat.zero_le _⟩ (fun H locs hP hS => ?_)
      refine lv_if_ne (tgt := 113) C.1 C.2.1 dX5_clause_108 (by decide) (fun c108 => ?_) (fun c108 => ?_)
      · rw [if_neg c108] at h
        refine lv_aload_n C.1 C.2.1 dX5_clause_113 rfl (lv_at hl 0 rfl) ?_
        refine lv_bipush (v := 59) C.1 C.2.1 dX5_clause_114 (by decide) ?_
        refine lv_iconst (v := 0) C.1 C.2.1 dX5_clause_116 (by decide) ?_
        obtain ⟨⟨r24, u25⟩, hc26, h⟩ := bd_some h
        try dsimp only at h
        refine cg_v (As := [.int 59, .int 0]) (rest := []) (AX_ge hJ) C hK hP hS (metX5_emit_2 l D cy ad st hJ _ 59 0 hc26) (cwV 2 C.2.2.2.2.2.1 gX5_clause_X5_emit rfl rfl rfl (by decide +kernel) ⟨(Nat.le_of_ble_eq_true rfl), (Nat.le_of_ble_eq_true rfl)⟩) 2 5 rfl rfl rfl hl.1 rfl (Nat.le_of_ble_eq_true rfl) dX5_clause_117 ⟨Nat.zero_le _, Nat.zero_le _⟩ (fun H locs hP hS => ?_)
        refine lv_iconst (v := 1) C.1 C.2.1 dX5_clause_120 (by decide) ?_
        obtain ⟨hg27, h⟩ := gd_some h
        cases h
        exact rt_z hg27 C hP hS dX5_clause_121
      · rw [if_pos c108] at h
        refine lv_iconst (v := 0) C.1 C.2.1 dX5_clause_111 (by decide) ?_
        obtain ⟨hg28, h⟩ := gd_some h
        cases h
        exact rt_z hg28 C hP hS dX5_clause_112
    · rw [if_pos c91] at h
      refine lv_iconst (v := 0) C.1 C.2.1 dX5_clause_94 (by decide) ?_
      obtain ⟨hg29, h⟩ := gd_some h
      cases h
      exact rt_z hg29 C hP hS dX5_clause_95
set_option maxHeartbeats 4000000 in
set_option maxRecDepth 100000 in
theorem wGX5_clause_2_42 {p : Program} {l : Launch} {e : Env} {s : State} {m : MethodId} {args : Array Value} {below : List Frame} {meth : Method} {c : Code} {D : va_G} {cy : Nat → ClassId} {ad st : Nat → Nat} (C : Cx RX5 cX5_clause 3 (some .boolean) wsX5_clause p s m args meth c) (hK : Ky D [(cy 0, .int), (cy 1, .long), (cy 2, .boolean), (cy 3, .byte), (cy 4, .object "HissHorn$Text")] st s) (hJ : JX ad st) {r : Int32} {u' : SX}   (y0 : Int32) (u : SX) (H : Heap) (locs : List Loc) (ls : Array Slot) (h : GX5_clause_2_42 y0 u = some (r, u')) (hP : va_P D vwCl (VX cy ad st u) H) (hS : va_S (Ax (AX ad) s.heap.size) s.heap H locs) (hl : lv_has ls 3 [(0, .ref (ad 2))]) : W p l e rmX5_clause_2 s m args below meth c H locs 0 0 (MQ below (Qi D (VX cy ad st) (AX ad) s.heap.size r u') args s 0 0 (Ax (AX ad) s.heap.size)) (F0 m 42 ls [.int y0]) := by
  unfold GX5_clause_2_42 at h
  refine lv_istore_n (lv' := [(2, .int y0), (0, .ref (ad 2))]) C.1 C.2.1 dX5_clause_42 rfl hl (by decide) rfl (fun ls hl => ?_)
  replace hl := lv_sub (l' := [(0, .ref (ad 2)), (2, .int y0)]) hl [1, 0] rfl
  refine lv_iload_n C.1 C.2.1 dX5_clause_43 rfl (lv_at hl 1 rfl) ?_
  refine lv_if_eq (tgt := 76) C.1 C.2.1 dX5_clause_44 (by decide) (fun c44 => ?_) (fun c44 => ?_)
  · rw [if_pos c44] at h
    exact wGX5_clause_2_76 C hK hJ _ _ _ _ _ h hP hS hl
  · rw [if_neg c44] at h
    refine lv_aload_n C.1 C.2.1 dX5_clause_47 rfl (lv_at hl 0 rfl) ?_
    refine lv_iconst (v := 0) C.1 C.2.1 dX5_clause_48 (by decide) ?_
    obtain ⟨⟨r30, u31⟩, hc32, h⟩ := bd_some h
    try dsimp only at h
    refine cg_i (As := [.int 0]) (rest := []) (AX_ge hJ) C hK hP hS ((hRX5conditiong_all l D cy ad st hJ 64).2.2.1 _ 0 _ _ _ hc32) (cwV 1 C.2.2.2.2.2.1 gX5_clause_X5_total rfl rfl rfl (by decide +kernel) ⟨(Nat.le_of_ble_eq_true rfl), (Nat.le_of_ble_eq_true rfl)⟩) 2 5 rfl rfl rfl hl.1 rfl (Nat.le_of_ble_eq_true rfl) dX5_clause_49 ⟨Nat.zero_le _, Nat.zero_le _⟩ (fun H locs hP hS => ?_)
    refine lv_if_ne (tgt := 57) C.1 C.2.1 dX5_clause_52 (by decide) (fun c52 => ?_) (fun c52 => ?_)
    · rw [if_neg c52] at h
      refine lv_aload_n C.1 C.2.1 dX5_clause_57 rfl (lv_at hl 0 rfl) ?_
      obtain ⟨⟨r33, u34⟩, hc35, h⟩ := bd_some h
      try dsimp only at h
      refine cg_i (As := []) (rest := []) (AX_ge hJ) C hK hP hS (metX5_peek_2 l D cy ad st hJ _  hc35) (cwV 0 C.2.2.2.2.2.1 gX5_clause_X5_peek rfl rfl rfl (by decide +kernel) ⟨(Nat.le_of_ble_eq_true rfl), (Nat.le_of_ble_eq_true rfl)⟩) 2 5 rfl rfl rfl hl.1 rfl (Nat.le_of_ble_eq_true rfl) dX5_clause_58 ⟨Nat.zero_le _, Nat.zero_le _⟩ (fun H locs hP hS => ?_)
      obtain ⟨r36, hc38, h⟩ := bd_some h
      refine cs_i (As := [.int r33]) (rest := []) (AX_ge hJ) C hK hP hS (metX5_compares l D cy st _ r33 hc38) (va_cwS 1 C.2.2.2.2.2.1 gX5_clause_X5_compares rfl rfl rfl (by decide +kernel) ⟨(Nat.le_of_ble_eq_true rfl), (Nat.le_of_ble_eq_true rfl)⟩) rfl hl.1 rfl (Nat.le_of_ble_eq_true rfl) dX5_clause_61 ⟨Nat.zero_le _, Nat.zero_le _⟩ (fun H locs hP hS => ?_)
      refine lv_if_ne (tgt := 76) C.1 C.2.1 dX5_clause_64 (by decide) (fun c64 => ?_) (fun c64 => ?_)
      · rw [if_neg c64] at h
        exact wGX5_clause_2_76 C hK hJ _ _ _ _ _ h hP hS hl
      · rw [if_pos c64] at h
        refine lv_aload_n C.1 C.2.1 dX5_clause_67 rfl (lv_at hl 0 rfl) ?_
        refine lv_bipush (v := 59) C.1 C.2.1 dX5_clause_68 (by decide) ?_
        refine lv_iconst (v := 0) C.1 C.2.1 dX5_clause_70 (by decide) ?_
        obtain ⟨⟨r39, u40⟩, hc41, h⟩ := bd_some h
        try dsimp only at h
        refine cg_v (As := [.int 59, .int 0]) (rest := []) (AX_ge hJ) C hK hP hS (metX5_emit_2 l D cy ad st hJ _ 59 0 hc41) (cwV 2 C.2.2.2.2.2.1 gX5_clause_X5_emit rfl rfl rfl (by decide +kernel) ⟨(Nat.le_of_ble_eq_true rfl), (Nat.le_of_ble_eq_true rfl)⟩) 2 5 rfl rfl rfl hl.1 rfl (Nat.le_of_ble_eq_true rfl) dX5_clause_71 ⟨Nat.zero_le _, Nat.zero_le _⟩ (fun H locs hP hS => ?_)
        refine lv_iconst (v := 1) C.1 C.2.1 dX5_clause_74 (by decide) ?_
        obtain ⟨hg42, h⟩ := gd_some h
        cases h
        exact rt_z hg42 C hP hS dX5_clause_75
    · rw [if_pos c52] at h
      refine lv_iconst (v := 0) C.1 C.2.1 dX5_clause_55 (by decide) ?_
      obtain ⟨hg43, h⟩ := gd_some h
      cases h
      exact rt_z hg43 C hP hS dX5_clause_56
set_option maxHeartbeats 4000000 in
set_option maxRecDepth 100000 in
theorem wGX5_clause_2_41 {p : Program} {l : Launch} {e : Env} {s : State} {m : MethodId} {args : Array Value} {below : List Frame} {meth : Method} {c : Code} {D : va_G} {cy : Nat → ClassId} {ad st : Nat → Nat} (C : Cx RX5 cX5_clause 3 (some .boolean) wsX5_clause p s m args meth c) (hK : Ky D [(cy 0, .int), (cy 1, .long), (cy 2, .boolean), (cy 3, .byte), (cy 4, .object "HissHorn$Text")] st s) (hJ : JX ad st) {r : Int32} {u' : SX}   (u : SX) (H : Heap) (locs : List Loc) (ls : Array Slot) (h : GX5_clause_2_41  u = some (r, u')) (hP : va_P D vwCl (VX cy ad st u) H) (hS : va_S (Ax (AX ad) s.heap.size) s.heap H locs) (hl : lv_has ls 3 [(0, .ref (ad 2))]) : W p l e rmX5_clause_2 s m args below meth c H locs 0 0 (MQ below (Qi D (VX cy ad st) (AX ad) s.heap.size r u') args s 0 0 (Ax (AX ad) s.heap.size)) (F0 m 41 ls []) := by
  unfold GX5_clause_2_41 at h
  refine lv_iconst (v := 0) C.1 C.2.1 dX5_clause_41 (by decide) ?_
  exact wGX5_clause_2_42 C hK hJ _ _ _ _ _ h hP hS hl
set_option maxHeartbeats 4000000 in
set_option maxRecDepth 100000 in
theorem wX5_clause_2 {p : Program} {l : Launch} {e : Env} {s : State} {m : MethodId} {args : Array Value} {below : List Frame} {meth : Method} {c : Code} {D : va_G} {cy : Nat → ClassId} {ad st : Nat → Nat} (C : Cx RX5 cX5_clause 3 (some .boolean) wsX5_clause p s m args meth c) (hK : Ky D [(cy 0, .int), (cy 1, .long), (cy 2, .boolean), (cy 3, .byte), (cy 4, .object "HissHorn$Text")] st s) (hJ : JX ad st)  {u : SX} {r : Int32} {u' : SX} {H : Heap} {locs : List Loc} {ls : Array Slot} (h : fX5_clause_2  u = some (r, u')) (hP : va_P D vwCl (VX cy ad st u) H) (hS : va_S (Ax (AX ad) s.heap.size) s.heap H locs) (hl : lv_has ls 3 [(0, .ref (ad 2))]) : W p l e rmX5_clause_2 s m args below meth c H locs 0 0 (MQ below (Qi D (VX cy ad st) (AX ad) s.heap.size r u') args s 0 0 (Ax (AX ad) s.heap.size)) (F0 m 0 ls []) := by
  unfold fX5_clause_2 at h
  refine lv_aload_n C.1 C.2.1 dX5_clause_0 rfl (lv_at hl 0 rfl) ?_
  refine lv_bipush (v := 121) C.1 C.2.1 dX5_clause_1 (by decide) ?_
  obtain ⟨⟨r1, u2⟩, hc3, h⟩ := bd_some h
  try dsimp only at h
  refine cg_i (As := [.int 121]) (rest := []) (AX_ge hJ) C hK hP hS (metX5_takes_2 l D cy ad st hJ _ 121 hc3) (cwV 1 C.2.2.2.2.2.1 gX5_clause_X5_takes rfl rfl rfl (by decide +kernel) ⟨(Nat.le_of_ble_eq_true rfl), (Nat.le_of_ble_eq_true rfl)⟩) 2 5 rfl rfl rfl hl.1 rfl (Nat.le_of_ble_eq_true rfl) dX5_clause_3 ⟨Nat.zero_le _, Nat.zero_le _⟩ (fun H locs hP hS => ?_)
  refine lv_if_eq (tgt := 18) C.1 C.2.1 dX5_clause_6 (by decide) (fun c6 => ?_) (fun c6 => ?_)
  · rw [if_pos c6] at h
    refine lv_iconst (v := 0) C.1 C.2.1 dX5_clause_18 (by decide) ?_
    obtain ⟨hg4, h⟩ := gd_some h
    cases h
    exact rt_z hg4 C hP hS dX5_clause_19
  · rw [if_neg c6] at h
    refine lv_aload_n C.1 C.2.1 dX5_clause_9 rfl (lv_at hl 0 rfl) ?_
    refine lv_bipush (v := 58) C.1 C.2.1 dX5_clause_10 (by decide) ?_
    obtain ⟨⟨r5, u6⟩, hc7, h⟩ := bd_some h
    try dsimp only at h
    refine cg_i (As := [.int 58]) (rest := []) (AX_ge hJ) C hK hP hS (metX5_takes_2 l D cy ad st hJ _ 58 hc7) (cwV 1 C.2.2.2.2.2.1 gX5_clause_X5_takes rfl rfl rfl (by decide +kernel) ⟨(Nat.le_of_ble_eq_true rfl), (Nat.le_of_ble_eq_true rfl)⟩) 2 5 rfl rfl rfl hl.1 rfl (Nat.le_of_ble_eq_true rfl) dX5_clause_12 ⟨Nat.zero_le _, Nat.zero_le _⟩ (fun H locs hP hS => ?_)
    refine lv_if_ne (tgt := 20) C.1 C.2.1 dX5_clause_15 (by decide) (fun c15 => ?_) (fun c15 => ?_)
    · rw [if_neg c15] at h
      refine lv_aload_n C.1 C.2.1 dX5_clause_20 rfl (lv_at hl 0 rfl) ?_
      obtain ⟨⟨r8, u9⟩, hc10, h⟩ := bd_some h
      try dsimp only at h
      refine cg_i (As := []) (rest := []) (AX_ge hJ) C hK hP hS (metX5_peek_2 l D cy ad st hJ _  hc10) (cwV 0 C.2.2.2.2.2.1 gX5_clause_X5_peek rfl rfl rfl (by decide +kernel) ⟨(Nat.le_of_ble_eq_true rfl), (Nat.le_of_ble_eq_true rfl)⟩) 2 5 rfl rfl rfl hl.1 rfl (Nat.le_of_ble_eq_true rfl) dX5_clause_21 ⟨Nat.zero_le _, Nat.zero_le _⟩ (fun H locs hP hS => ?_)
      refine lv_istore_n (lv' := [(1, .int r8), (0, .ref (ad 2))]) C.1 C.2.1 dX5_clause_24 rfl hl (by decide) rfl (fun ls hl => ?_)
      replace hl := lv_sub (l' := [(0, .ref (ad 2)), (1, .int r8)]) hl [1, 0] rfl
      refine lv_iload_n C.1 C.2.1 dX5_clause_25 rfl (lv_at hl 1 rfl) ?_
      refine lv_bipush (v := 33) C.1 C.2.1 dX5_clause_26 (by decide) ?_
      refine lv_icmp_eq (tgt := 41) C.1 C.2.1 dX5_clause_28 (by decide) (fun c28 => ?_) (fun c28 => ?_)
      · rw [if_pos c28] at h
        exact wGX5_clause_2_41 C hK hJ _ _ _ _ h hP hS (lv_sub hl [0] rfl)
      · rw [if_neg c28] at h
        refine lv_iload_n C.1 C.2.1 dX5_clause_31 rfl (lv_at hl 1 rfl) ?_
        refine lv_bipush (v := 40) C.1 C.2.1 dX5_clause_32 (by decide) ?_
        refine lv_icmp_eq (tgt := 41) C.1 C.2.1 dX5_clause_34 (by decide) (fun c34 => ?_) (fun c34 => ?_)
        · rw [if_pos c34] at h
          exact wGX5_clause_2_41 C hK hJ _ _ _ _ h hP hS (lv_sub hl [0] rfl)
        · rw [if_neg c34] at h
          refine lv_iconst (v := 1) C.1 C.2.1 dX5_clause_37 (by decide) ?_
          refine lv_goto (tgt := 42) C.1 C.2.1 dX5_clause_38 (by decide) ?_
          exact wGX5_clause_2_42 C hK hJ _ _ _ _ _ h hP hS (lv_sub hl [0] rfl)
    · rw [if_pos c15] at h
      refine lv_iconst (v := 0) C.1 C.2.1 dX5_clause_18 (by decide) ?_
      obtain ⟨hg44, h⟩ := gd_some h
      cases h
      exact rt_z hg44 C hP hS dX5_clause_19
theorem metX5_clause_2 (l : Launch) (D : va_G) (cy : Nat → ClassId) (ad st : Nat → Nat) (hJ : JX ad st) (sz : Nat)  {u : SX} {r : Int32} {u' : SX} (h : fX5_clause_2  u = some (r, u')) : Met l yX5_clause wsX5_clause rmX5_clause_2 (va_Pc [.ref (ad 2)] (Px D [(cy 0, .int), (cy 1, .long), (cy 2, .boolean), (cy 3, .byte), (cy 4, .object "HissHorn$Text")] st (VX cy ad st) sz u)) (Qi D (VX cy ad st) (AX ad) sz r u') 0 0 (Ax (AX ad) sz) := by
  refine Met.ofW (cc := cX5_clause) (maxL := 3) (ret := (some .boolean)) (by decide) rfl ?_
  intro p e s m args below meth c s₁ B hml hv
  obtain ⟨rfl, hsz, hP, hK⟩ := hv
  subst hsz
  have C : Cx RX5 cX5_clause 3 (some .boolean) wsX5_clause p s m _ meth c := ⟨B.exec, B.bytes, hml, B.returns, findClass_of_methodNamed B.named, atoms_spec (ws := wsX5_clause) B.pre, B.notSynchronized⟩
  have hl := lv_entry ([.ref (ad 2)]) (n := 3) (Nat.le_of_ble_eq_true rfl)
  rw [lg_entry_eq]
  exact wX5_clause_2 C hK hJ h hP va_S.rf hl

theorem zdX5_faultBy_17 : (and (and (and (and (and (zk cX5_faultBy 17 (.iload_n 2) 1) (zk cX5_faultBy 18 (.aload_n 0) 1)) (and (zk cX5_faultBy 19 (.getfield 23) 3) (zk cX5_faultBy 22 (.getfield 34) 3))) (and (and (zk cX5_faultBy 25 (.if_icmp .gt 33) 3) (zk cX5_faultBy 28 (.aload_n 0) 1)) (and (zk cX5_faultBy 29 (.invokevirtual 37) 3) (zk cX5_faultBy 32 (.ifCond .ne 8) 3)))) (and (and (and (zk cX5_faultBy 40 (.aload_n 0) 1) (zk cX5_faultBy 41 (.bipush 59) 2)) (and (zk cX5_faultBy 43 (.invokevirtual 41) 3) (zk cX5_faultBy 46 (.ifCond .ne 6) 3))) (and (and (zk cX5_faultBy 52 (.iinc 2 1) 3) (zk cX5_faultBy 55 (.goto (-38)) 3)) (and (zk cX5_faultBy 35 (.aload_n 0) 1) (zk cX5_faultBy 36 (.getfield 27) 3))))) (and (and (and (and (zk cX5_faultBy 39 (.ireturn) 1) (zk cX5_faultBy 58 (.aload_n 0) 1)) (and (zk cX5_faultBy 59 (.invokevirtual 45) 3) (zk cX5_faultBy 62 (.ifCond .ne 7) 3))) (and (and (zk cX5_faultBy 69 (.aload_n 0) 1) (zk cX5_faultBy 70 (.getfield 27) 3)) (and (zk cX5_faultBy 73 (.ireturn) 1) (zk cX5_faultBy 65 (.iconst (-1)) 1)))) (and (and (and (zk cX5_faultBy 66 (.goto 7) 3) (zk cX5_faultBy 49 (.goto 9) 3)) (and (zk cX5_faultBy 0 (.aload_n 0) 1) (zk cX5_faultBy 1 (.aload_n 1) 1))) (and (and (zk cX5_faultBy 2 (.putfield 19) 3) (zk cX5_faultBy 5 (.aload_n 0) 1)) (and (zk cX5_faultBy 6 (.iconst 0) 1) (zk cX5_faultBy 7 (.putfield 27) 3)))))) = true := by decide +kernel
theorem dX5_faultBy_17 : decode cX5_faultBy 17 = .ok (.iload_n 2, 1) := zk_of (zk_l (zk_l (zk_l (zk_l (zk_l zdX5_faultBy_17)))))
theorem dX5_faultBy_18 : decode cX5_faultBy 18 = .ok (.aload_n 0, 1) := zk_of (zk_r (zk_l (zk_l (zk_l (zk_l zdX5_faultBy_17)))))
theorem dX5_faultBy_19 : decode cX5_faultBy 19 = .ok (.getfield 23, 3) := zk_of (zk_l (zk_r (zk_l (zk_l (zk_l zdX5_faultBy_17)))))
theorem dX5_faultBy_22 : decode cX5_faultBy 22 = .ok (.getfield 34, 3) := zk_of (zk_r (zk_r (zk_l (zk_l (zk_l zdX5_faultBy_17)))))
theorem dX5_faultBy_25 : decode cX5_faultBy 25 = .ok (.if_icmp .gt 33, 3) := zk_of (zk_l (zk_l (zk_r (zk_l (zk_l zdX5_faultBy_17)))))
theorem dX5_faultBy_28 : decode cX5_faultBy 28 = .ok (.aload_n 0, 1) := zk_of (zk_r (zk_l (zk_r (zk_l (zk_l zdX5_faultBy_17)))))
theorem dX5_faultBy_29 : decode cX5_faultBy 29 = .ok (.invokevirtual 37, 3) := zk_of (zk_l (zk_r (zk_r (zk_l (zk_l zdX5_faultBy_17)))))
theorem dX5_faultBy_32 : decode cX5_faultBy 32 = .ok (.ifCond .ne 8, 3) := zk_of (zk_r (zk_r (zk_r (zk_l (zk_l zdX5_faultBy_17)))))
theorem dX5_faultBy_40 : decode cX5_faultBy 40 = .ok (.aload_n 0, 1) := zk_of (zk_l (zk_l (zk_l (zk_r (zk_l zdX5_faultBy_17)))))
theorem dX5_faultBy_41 : decode cX5_faultBy 41 = .ok (.bipush 59, 2) := zk_of (zk_r (zk_l (zk_l (zk_r (zk_l zdX5_faultBy_17)))))
theorem dX5_faultBy_43 : decode cX5_faultBy 43 = .ok (.invokevirtual 41, 3) := zk_of (zk_l (zk_r (zk_l (zk_r (zk_l zdX5_faultBy_17)))))
theorem dX5_faultBy_46 : decode cX5_faultBy 46 = .ok (.ifCond .ne 6, 3) := zk_of (zk_r (zk_r (zk_l (zk_r (zk_l zdX5_faultBy_17)))))
theorem dX5_faultBy_52 : decode cX5_faultBy 52 = .ok (.iinc 2 1, 3) := zk_of (zk_l (zk_l (zk_r (zk_r (zk_l zdX5_faultBy_17)))))
theorem dX5_faultBy_55 : decode cX5_faultBy 55 = .ok (.goto (-38), 3) := zk_of (zk_r (zk_l (zk_r (zk_r (zk_l zdX5_faultBy_17)))))
theorem dX5_faultBy_35 : decode cX5_faultBy 35 = .ok (.aload_n 0, 1) := zk_of (zk_l (zk_r (zk_r (zk_r (zk_l zdX5_faultBy_17)))))
theorem dX5_faultBy_36 : decode cX5_faultBy 36 = .ok (.getfield 27, 3) := zk_of (zk_r (zk_r (zk_r (zk_r (zk_l zdX5_faultBy_17)))))
theorem dX5_faultBy_39 : decode cX5_faultBy 39 = .ok (.ireturn, 1) := zk_of (zk_l (zk_l (zk_l (zk_l (zk_r zdX5_faultBy_17)))))
theorem dX5_faultBy_58 : decode cX5_faultBy 58 = .ok (.aload_n 0, 1) := zk_of (zk_r (zk_l (zk_l (zk_l (zk_r zdX5_faultBy_17)))))
theorem dX5_faultBy_59 : decode cX5_faultBy 59 = .ok (.invokevirtual 45, 3) := zk_of (zk_l (zk_r (zk_l (zk_l (zk_r zdX5_faultBy_17)))))
theorem dX5_faultBy_62 : decode cX5_faultBy 62 = .ok (.ifCond .ne 7, 3) := zk_of (zk_r (zk_r (zk_l (zk_l (zk_r zdX5_faultBy_17)))))
theorem dX5_faultBy_69 : decode cX5_faultBy 69 = .ok (.aload_n 0, 1) := zk_of (zk_l (zk_l (zk_r (zk_l (zk_r zdX5_faultBy_17)))))
theorem dX5_faultBy_70 : decode cX5_faultBy 70 = .ok (.getfield 27, 3) := zk_of (zk_r (zk_l (zk_r (zk_l (zk_r zdX5_faultBy_17)))))
theorem dX5_faultBy_73 : decode cX5_faultBy 73 = .ok (.ireturn, 1) := zk_of (zk_l (zk_r (zk_r (zk_l (zk_r zdX5_faultBy_17)))))
theorem dX5_faultBy_65 : decode cX5_faultBy 65 = .ok (.iconst (-1), 1) := zk_of (zk_r (zk_r (zk_r (zk_l (zk_r zdX5_faultBy_17)))))
theorem dX5_faultBy_66 : decode cX5_faultBy 66 = .ok (.goto 7, 3) := zk_of (zk_l (zk_l (zk_l (zk_r (zk_r zdX5_faultBy_17)))))
theorem dX5_faultBy_49 : decode cX5_faultBy 49 = .ok (.goto 9, 3) := zk_of (zk_r (zk_l (zk_l (zk_r (zk_r zdX5_faultBy_17)))))
theorem dX5_faultBy_0 : decode cX5_faultBy 0 = .ok (.aload_n 0, 1) := zk_of (zk_l (zk_r (zk_l (zk_r (zk_r zdX5_faultBy_17)))))
theorem dX5_faultBy_1 : decode cX5_faultBy 1 = .ok (.aload_n 1, 1) := zk_of (zk_r (zk_r (zk_l (zk_r (zk_r zdX5_faultBy_17)))))
theorem dX5_faultBy_2 : decode cX5_faultBy 2 = .ok (.putfield 19, 3) := zk_of (zk_l (zk_l (zk_r (zk_r (zk_r zdX5_faultBy_17)))))
theorem dX5_faultBy_5 : decode cX5_faultBy 5 = .ok (.aload_n 0, 1) := zk_of (zk_r (zk_l (zk_r (zk_r (zk_r zdX5_faultBy_17)))))
theorem dX5_faultBy_6 : decode cX5_faultBy 6 = .ok (.iconst 0, 1) := zk_of (zk_l (zk_r (zk_r (zk_r (zk_r zdX5_faultBy_17)))))
theorem dX5_faultBy_7 : decode cX5_faultBy 7 = .ok (.putfield 27, 3) := zk_of (zk_r (zk_r (zk_r (zk_r (zk_r zdX5_faultBy_17)))))
set_option maxRecDepth 20000 in
theorem ggX5_faultBy_X5_clause : GoodIn wsX5_faultBy wsX5_clause := goodIn_r _ [10, 11, 12, 13, 9, 14, 2, 15, 16, 17, 18, 4, 5, 19, 20, 21, 22, 23, 24, 25, 26, 27, 28, 29, 30, 3, 31, 32, 1, 33, 34, 35, 36, 37, 38, 39, 40, 41, 42, 43, 44, 45, 46, 47, 48, 49, 50, 51, 52, 53, 54, 55, 56, 57, 58, 59, 60, 61, 62, 63, 64, 65, 66, 67, 68, 69, 70, 71, 72, 73, 74, 75, 76, 77, 78, 79, 80, 81, 82, 83, 84, 85, 86, 87, 88, 89, 90, 91, 92, 93, 94, 95, 96, 97, 98, 99, 100, 101, 102, 103, 104, 105, 106, 107, 108, 109, 110, 111, 112, 113, 114, 115, 116, 117, 118, 119, 120, 121, 122, 123, 124, 125, 126, 127, 128, 129, 130, 131, 132, 133, 134, 135, 136, 137, 138, 139, 140, 141, 142, 143] rfl (by decide +kernel)
set_option maxRecDepth 20000 in
theorem gX5_faultBy_X5_clause : GoodIn wsX5_faultBy (wsV RX5 37 RX5 yX5_clause wsX5_clause) := goodIn_app (goodIn_of _ (by decide +kernel)) ggX5_faultBy_X5_clause
set_option maxRecDepth 20000 in
theorem ggX5_faultBy_X5_takes : GoodIn wsX5_faultBy wsX5_takes := goodIn_r _ [14, 2, 15, 16, 17, 9, 18, 4, 5, 19, 137, 138, 139, 140, 141, 142, 143] rfl (by decide +kernel)
set_option maxRecDepth 20000 in
theorem gX5_faultBy_X5_takes : GoodIn wsX5_faultBy (wsV RX5 41 RX5 yX5_takes wsX5_takes) := goodIn_app (goodIn_of _ (by decide +kernel)) ggX5_faultBy_X5_takes
set_option maxRecDepth 20000 in
theorem ggX5_faultBy_X5_peek : GoodIn wsX5_faultBy wsX5_peek := goodIn_r _ [18, 2, 4, 5, 19, 137, 138, 139, 140, 141, 142, 143] rfl (by decide +kernel)
set_option maxRecDepth 20000 in
theorem gX5_faultBy_X5_peek : GoodIn wsX5_faultBy (wsV RX5 45 RX5 yX5_peek wsX5_peek) := goodIn_app (goodIn_of _ (by decide +kernel)) ggX5_faultBy_X5_peek
theorem zdX5_faultBy_10 : (and (and (and (zk cX5_faultBy 10 (.aload_n 0) 1) (zk cX5_faultBy 11 (.iconst 0) 1)) (zk cX5_faultBy 12 (.putfield 31) 3)) (and (zk cX5_faultBy 15 (.iconst 0) 1) (zk cX5_faultBy 16 (.istore_n 2) 1))) = true := by decide +kernel
theorem dX5_faultBy_10 : decode cX5_faultBy 10 = .ok (.aload_n 0, 1) := zk_of (zk_l (zk_l (zk_l zdX5_faultBy_10)))
theorem dX5_faultBy_11 : decode cX5_faultBy 11 = .ok (.iconst 0, 1) := zk_of (zk_r (zk_l (zk_l zdX5_faultBy_10)))
theorem dX5_faultBy_12 : decode cX5_faultBy 12 = .ok (.putfield 31, 3) := zk_of (zk_r (zk_l zdX5_faultBy_10))
theorem dX5_faultBy_15 : decode cX5_faultBy 15 = .ok (.iconst 0, 1) := zk_of (zk_l (zk_r zdX5_faultBy_10))
theorem dX5_faultBy_16 : decode cX5_faultBy 16 = .ok (.istore_n 2, 1) := zk_of (zk_r (zk_r zdX5_faultBy_10))
/-- HissHorn$Parser.faultBy(Ljava/lang/String;)I of cell 2 -/
def rmX5_faultBy_2_as0 : Room := { frames := 70, cells := 0, slots := 0, locals := 4235 }
theorem hX5_faultBy_2_as0_X5 : ∀ w ∈ u_ws RX5 TX5 5, w ∈ wsX5_faultBy := fun w h => (List.mem_cons_of_mem _ (List.mem_append_left _ (List.mem_append_right _ h)))
theorem mX5_faultBy_2_as0_1 : Cond.fieldLink RX5 19 "HissHorn$Parser" "letters" "Ljava/lang/String;" ∈ wsX5_faultBy := (List.mem_cons_of_mem _ (List.mem_append_left _ (List.mem_append_left _ (List.mem_append_left _ (List.mem_of_getElem? (i := 0) rfl)))))
theorem mX5_faultBy_2_as0_2 : Cond.fieldLink RX5 27 "HissHorn$Parser" "at" "I" ∈ wsX5_faultBy := (List.mem_cons_of_mem _ (List.mem_append_left _ (List.mem_append_left _ (List.mem_append_left _ (List.mem_of_getElem? (i := 1) rfl)))))
theorem mX5_faultBy_2_as0_3 : Cond.fieldLink RX5 31 "HissHorn$Parser" "size" "I" ∈ wsX5_faultBy := (List.mem_cons_of_mem _ (List.mem_append_left _ (List.mem_append_left _ (List.mem_append_left _ (List.mem_of_getElem? (i := 2) rfl)))))
theorem mX5_faultBy_2_as0_4 : Cond.fieldLink RX5 23 "HissHorn$Parser" "tape" "LHissHorn$Tape;" ∈ wsX5_faultBy := (List.mem_cons_of_mem _ (List.mem_append_left _ (List.mem_append_left _ (List.mem_append_left _ (List.mem_of_getElem? (i := 3) rfl)))))
theorem hX5_faultBy_2_as0_X9 : ∀ w ∈ u_ws RX9 TX9 2, w ∈ wsX5_faultBy := fun w h => (List.mem_cons_of_mem _ (List.mem_append_right _ h))
theorem mX5_faultBy_2_as0_6 : Cond.fieldLink RX5 34 "HissHorn$Tape" "length" "I" ∈ wsX5_faultBy := (List.mem_cons_of_mem _ (List.mem_append_left _ (List.mem_append_left _ (List.mem_append_left _ (List.mem_of_getElem? (i := 4) rfl)))))
def LX5_faultBy_2_as0_17 (k49 : SX → Option (Int32 × SX)) (k58 : SX → Option (Int32 × SX)) : Nat → Int32 → SX → Option (Int32 × SX)
  | 0, _, _ => none
  | n + 1, z2, u => (if (u.1 1) < z2 then (k58 u) else ((fX5_clause_2  u).bind fun q => match q with | (r7, u8) => (if r7 = 0 then (some (u8.1 4, u8)) else ((fX5_takes_2 59 u8).bind fun q => match q with | (r10, u11) => (if r10 = 0 then (k49 u11) else ((LX5_faultBy_2_as0_17 k49 k58 n) (z2 + 1) u11))))))
def GX5_faultBy_2_as0_58  (u : SX) : Option (Int32 × SX) := ((fX5_peek_2  u).bind fun q => match q with | (r13, u14) => (if r13 = 0 then (some ((-1), u14)) else (some (u14.1 4, u14))))
def GX5_faultBy_2_as0_49  (u : SX) : Option (Int32 × SX) := (GX5_faultBy_2_as0_58 u)
def fX5_faultBy_2_as0  (u : SX) : Option (Int32 × SX) := (lt (sI u 3 0) fun u1 => (lt (sI u1 4 0) fun u3 => (lt (sI u3 2 0) fun u5 => (LX5_faultBy_2_as0_17 GX5_faultBy_2_as0_49 GX5_faultBy_2_as0_58 5000 0 u5))))
set_option maxHeartbeats 4000000 in
set_option maxRecDepth 100000 in
theorem wLX5_faultBy_2_as0_17 {p : Program} {l : Launch} {e : Env} {s : State} {m : MethodId} {args : Array Value} {below : List Frame} {meth : Method} {c : Code} {D : va_G} {cy : Nat → ClassId} {ad st : Nat → Nat} (C : Cx RX5 cX5_faultBy 3 (some .int) wsX5_faultBy p s m args meth c) (hK : Ky D [(cy 0, .int), (cy 1, .long), (cy 2, .boolean), (cy 3, .byte), (cy 4, .object "HissHorn$Text")] st s) (hJ : JX ad st) {r : Int32} {u' : SX} {k49 : SX → Option (Int32 × SX)} {k58 : SX → Option (Int32 × SX)} (hk49 : ∀  (u : SX) (H : Heap) (locs : List Loc) (ls : Array Slot), k49 u = some (r, u') → va_P D vwCl (VX cy ad st u) H → va_S (Ax (AX ad) s.heap.size) s.heap H locs → lv_has ls 3 [(0, .ref (ad 2))] → W p l e rmX5_faultBy_2_as0 s m args below meth c H locs 0 0 (MQ below (Qi D (VX cy ad st) (AX ad) s.heap.size r u') args s 0 0 (Ax (AX ad) s.heap.size)) (F0 m 49 ls [])) (hk58 : ∀  (u : SX) (H : Heap) (locs : List Loc) (ls : Array Slot), k58 u = some (r, u') → va_P D vwCl (VX cy ad st u) H → va_S (Ax (AX ad) s.heap.size) s.heap H locs → lv_has ls 3 [(0, .ref (ad 2))] → W p l e rmX5_faultBy_2_as0 s m args below meth c H locs 0 0 (MQ below (Qi D (VX cy ad st) (AX ad) s.heap.size r u') args s 0 0 (Ax (AX ad) s.heap.size)) (F0 m 58 ls [])) : ∀ (n : Nat) (z2 : Int32) (u : SX) (H : Heap) (locs : List Loc) (ls : Array Slot), LX5_faultBy_2_as0_17 k49 k58 n z2 u = some (r, u') → va_P D vwCl (VX cy ad st u) H → va_S (Ax (AX ad) s.heap.size) s.heap H locs → lv_has ls 3 [(0, .ref (ad 2)), (2, .int z2)] → W p l e rmX5_faultBy_2_as0 s m args below meth c H locs 0 0 (MQ below (Qi D (VX cy ad st) (AX ad) s.heap.size r u') args s 0 0 (Ax (AX ad) s.heap.size)) (F0 m 17 ls []) := by
  intro n
  induction n with
  | zero =>
    intro z2 u H locs ls h
    exact absurd h (by intro q; cases q)
  | succ n ih =>
    intro z2 u H locs ls h hP hS hl
    rw [LX5_faultBy_2_as0_17] at h
    refine lv_iload_n C.1 C.2.1 dX5_faultBy_17 rfl (lv_at hl 1 rfl) ?_
    refine lv_aload_n C.1 C.2.1 dX5_faultBy_18 rfl (lv_at hl 0 rfl) ?_
    refine gX_2_tape C hX5_faultBy_2_as0_X5 hK hP mX5_faultBy_2_as0_4 dX5_faultBy_19 ?_
    refine gX_1_length C hX5_faultBy_2_as0_X9 hK hP mX5_faultBy_2_as0_6 dX5_faultBy_22 ?_
    refine lv_icmp_gt (tgt := 58) C.1 C.2.1 dX5_faultBy_25 (by decide) (fun c25 => ?_) (fun c25 => ?_)
    · rw [if_pos c25] at h
      exact hk58 _ _ _ _ h hP hS (lv_sub hl [0] rfl)
    · rw [if_neg c25] at h
      refine lv_aload_n C.1 C.2.1 dX5_faultBy_28 rfl (lv_at hl 0 rfl) ?_
      obtain ⟨⟨r7, u8⟩, hc9, h⟩ := bd_some h
      try dsimp only at h
      refine cg_i (As := []) (rest := []) (AX_ge hJ) C hK hP hS (metX5_clause_2 l D cy ad st hJ _  hc9) (cwV 0 C.2.2.2.2.2.1 gX5_faultBy_X5_clause rfl rfl rfl (by decide +kernel) ⟨(Nat.le_of_ble_eq_true rfl), (Nat.le_of_ble_eq_true rfl)⟩) 2 5 rfl rfl rfl hl.1 rfl (Nat.le_of_ble_eq_true rfl) dX5_faultBy_29 ⟨Nat.zero_le _, Nat.zero_le _⟩ (fun H locs hP hS => ?_)
      refine lv_if_ne (tgt := 40) C.1 C.2.1 dX5_faultBy_32 (by decide) (fun c32 => ?_) (fun c32 => ?_)
      · rw [if_neg c32] at h
        refine lv_aload_n C.1 C.2.1 dX5_faultBy_40 rfl (lv_at hl 0 rfl) ?_
        refine lv_bipush (v := 59) C.1 C.2.1 dX5_faultBy_41 (by decide) ?_
        obtain ⟨⟨r10, u11⟩, hc12, h⟩ := bd_some h
        try dsimp only at h
        refine cg_i (As := [.int 59]) (rest := []) (AX_ge hJ) C hK hP hS (metX5_takes_2 l D cy ad st hJ _ 59 hc12) (cwV 1 C.2.2.2.2.2.1 gX5_faultBy_X5_takes rfl rfl rfl (by decide +kernel) ⟨(Nat.le_of_ble_eq_true rfl), (Nat.le_of_ble_eq_true rfl)⟩) 2 5 rfl rfl rfl hl.1 rfl (Nat.le_of_ble_eq_true rfl) dX5_faultBy_43 ⟨Nat.zero_le _, Nat.zero_le _⟩ (fun H locs hP hS => ?_)
        refine lv_if_ne (tgt := 52) C.1 C.2.1 dX5_faultBy_46 (by decide) (fun c46 => ?_) (fun c46 => ?_)
        · rw [if_neg c46] at h
          refine lv_iinc (v := z2 + 1) (lv' := [(2, .int (z2 + 1)), (0, .ref (ad 2))]) C.1 C.2.1 dX5_faultBy_52 hl (k := 1) rfl rfl (by decide) rfl (fun ls hl => ?_)
          replace hl := lv_sub (l' := [(0, .ref (ad 2)), (2, .int (z2 + 1))]) hl [1, 0] rfl
          refine lv_goto (tgt := 17) C.1 C.2.1 dX5_faultBy_55 (by decide) ?_
          exact ih _ _ _ _ _ h hP hS hl
        · rw [if_pos c46] at h
          exact hk49 _ _ _ _ h hP hS (lv_sub hl [0] rfl)
      · rw [if_pos c32] at h
        refine lv_aload_n C.1 C.2.1 dX5_faultBy_35 rfl (lv_at hl 0 rfl) ?_
        refine gX_2_at C hX5_faultBy_2_as0_X5 hK hP mX5_faultBy_2_as0_2 dX5_faultBy_36 ?_
        cases h
        exact rt_i C hP hS dX5_faultBy_39
set_option maxHeartbeats 4000000 in
set_option maxRecDepth 100000 in
theorem wGX5_faultBy_2_as0_58 {p : Program} {l : Launch} {e : Env} {s : State} {m : MethodId} {args : Array Value} {below : List Frame} {meth : Method} {c : Code} {D : va_G} {cy : Nat → ClassId} {ad st : Nat → Nat} (C : Cx RX5 cX5_faultBy 3 (some .int) wsX5_faultBy p s m args meth c) (hK : Ky D [(cy 0, .int), (cy 1, .long), (cy 2, .boolean), (cy 3, .byte), (cy 4, .object "HissHorn$Text")] st s) (hJ : JX ad st) {r : Int32} {u' : SX}   (u : SX) (H : Heap) (locs : List Loc) (ls : Array Slot) (h : GX5_faultBy_2_as0_58  u = some (r, u')) (hP : va_P D vwCl (VX cy ad st u) H) (hS : va_S (Ax (AX ad) s.heap.size) s.heap H locs) (hl : lv_has ls 3 [(0, .ref (ad 2))]) : W p l e rmX5_faultBy_2_as0 s m args below meth c H locs 0 0 (MQ below (Qi D (VX cy ad st) (AX ad) s.heap.size r u') args s 0 0 (Ax (AX ad) s.heap.size)) (F0 m 58 ls []) := by
  unfold GX5_faultBy_2_as0_58 at h
  refine lv_aload_n C.1 C.2.1 dX5_faultBy_58 rfl (lv_at hl 0 rfl) ?_
  obtain ⟨⟨r13, u14⟩, hc15, h⟩ := bd_some h
  try dsimp only at h
  refine cg_i (As := []) (rest := []) (AX_ge hJ) C hK hP hS (metX5_peek_2 l D cy ad st hJ _  hc15) (cwV 0 C.2.2.2.2.2.1 gX5_faultBy_X5_peek rfl rfl rfl (by decide +kernel) ⟨(Nat.le_of_ble_eq_true rfl), (Nat.le_of_ble_eq_true rfl)⟩) 2 5 rfl rfl rfl hl.1 rfl (Nat.le_of_ble_eq_true rfl) dX5_faultBy_59 ⟨Nat.zero_le _, Nat.zero_le _⟩ (fun H locs hP hS => ?_)
  refine lv_if_ne (tgt := 69) C.1 C.2.1 dX5_faultBy_62 (by decide) (fun c62 => ?_) (fun c62 => ?_)
  · rw [if_neg c62] at h
    refine lv_aload_n C.1 C.2.1 dX5_faultBy_69 rfl (lv_at hl 0 rfl) ?_
    refine gX_2_at C hX5_faultBy_2_as0_X5 hK hP mX5_faultBy_2_as0_2 dX5_faultBy_70 ?_
    cases h
    exact rt_i C hP hS dX5_faultBy_73
  · rw [if_pos c62] at h
    refine lv_iconst (v := (-1)) C.1 C.2.1 dX5_faultBy_65 (by decide) ?_
    refine lv_goto (tgt := 73) C.1 C.2.1 dX5_faultBy_66 (by decide) ?_
    cases h
    exact rt_i C hP hS dX5_faultBy_73
set_option maxHeartbeats 4000000 in
set_option maxRecDepth 100000 in
theorem wGX5_faultBy_2_as0_49 {p : Program} {l : Launch} {e : Env} {s : State} {m : MethodId} {args : Array Value} {below : List Frame} {meth : Method} {c : Code} {D : va_G} {cy : Nat → ClassId} {ad st : Nat → Nat} (C : Cx RX5 cX5_faultBy 3 (some .int) wsX5_faultBy p s m args meth c) (hK : Ky D [(cy 0, .int), (cy 1, .long), (cy 2, .boolean), (cy 3, .byte), (cy 4, .object "HissHorn$Text")] st s) (hJ : JX ad st) {r : Int32} {u' : SX}   (u : SX) (H : Heap) (locs : List Loc) (ls : Array Slot) (h : GX5_faultBy_2_as0_49  u = some (r, u')) (hP : va_P D vwCl (VX cy ad st u) H) (hS : va_S (Ax (AX ad) s.heap.size) s.heap H locs) (hl : lv_has ls 3 [(0, .ref (ad 2))]) : W p l e rmX5_faultBy_2_as0 s m args below meth c H locs 0 0 (MQ below (Qi D (VX cy ad st) (AX ad) s.heap.size r u') args s 0 0 (Ax (AX ad) s.heap.size)) (F0 m 49 ls []) := by
  unfold GX5_faultBy_2_as0_49 at h
  refine lv_goto (tgt := 58) C.1 C.2.1 dX5_faultBy_49 (by decide) ?_
  exact wGX5_faultBy_2_as0_58 C hK hJ _ _ _ _ h hP hS hl
set_option maxHeartbeats 4000000 in
set_option maxRecDepth 100000 in
theorem wX5_faultBy_2_as0 {p : Program} {l : Launch} {e : Env} {s : State} {m : MethodId} {args : Array Value} {below : List Frame} {meth : Method} {c : Code} {D : va_G} {cy : Nat → ClassId} {ad st : Nat → Nat} (C : Cx RX5 cX5_faultBy 3 (some .int) wsX5_faultBy p s m args meth c) (hK : Ky D [(cy 0, .int), (cy 1, .long), (cy 2, .boolean), (cy 3, .byte), (cy 4, .object "HissHorn$Text")] st s) (hJ : JX ad st)  {u : SX} {r : Int32} {u' : SX} {H : Heap} {locs : List Loc} {ls : Array Slot} (h : fX5_faultBy_2_as0  u = some (r, u')) (hP : va_P D vwCl (VX cy ad st u) H) (hS : va_S (Ax (AX ad) s.heap.size) s.heap H locs) (hl : lv_has ls 3 [(0, .ref (ad 2)), (1, .ref (st 0))]) : W p l e rmX5_faultBy_2_as0 s m args below meth c H locs 0 0 (MQ below (Qi D (VX cy ad st) (AX ad) s.heap.size r u') args s 0 0 (Ax (AX ad) s.heap.size)) (F0 m 0 ls []) := by
  unfold fX5_faultBy_2_as0 at h
  refine lv_aload_n C.1 C.2.1 dX5_faultBy_0 rfl (lv_at hl 0 rfl) ?_
  refine lv_aload_n C.1 C.2.1 dX5_faultBy_1 rfl (lv_at hl 1 rfl) ?_
  refine pX_2_letters (v := 0) C hX5_faultBy_2_as0_X5 hK hP hJ hS mX5_faultBy_2_as0_1 dX5_faultBy_2 (fun H locs hP hS => ?_)
  obtain ⟨u1, hu2, h⟩ := lt_some h
  rw [← hu2] at hP
  refine lv_aload_n C.1 C.2.1 dX5_faultBy_5 rfl (lv_at hl 0 rfl) ?_
  refine lv_iconst (v := 0) C.1 C.2.1 dX5_faultBy_6 (by decide) ?_
  refine pX_2_at C hX5_faultBy_2_as0_X5 hK hP hJ hS mX5_faultBy_2_as0_2 dX5_faultBy_7 (fun H locs hP hS => ?_)
  obtain ⟨u3, hu4, h⟩ := lt_some h
  rw [← hu4] at hP
  refine lv_aload_n C.1 C.2.1 dX5_faultBy_10 rfl (lv_at hl 0 rfl) ?_
  refine lv_iconst (v := 0) C.1 C.2.1 dX5_faultBy_11 (by decide) ?_
  refine pX_2_size C hX5_faultBy_2_as0_X5 hK hP hJ hS mX5_faultBy_2_as0_3 dX5_faultBy_12 (fun H locs hP hS => ?_)
  obtain ⟨u5, hu6, h⟩ := lt_some h
  rw [← hu6] at hP
  refine lv_iconst (v := 0) C.1 C.2.1 dX5_faultBy_15 (by decide) ?_
  refine lv_istore_n (lv' := [(2, .int 0), (0, .ref (ad 2)), (1, .ref (st 0))]) C.1 C.2.1 dX5_faultBy_16 rfl hl (by decide) rfl (fun ls hl => ?_)
  replace hl := lv_sub (l' := [(0, .ref (ad 2)), (1, .ref (st 0)), (2, .int 0)]) hl [1, 2, 0] rfl
  exact wLX5_faultBy_2_as0_17 C hK hJ (wGX5_faultBy_2_as0_49 C hK hJ ) (wGX5_faultBy_2_as0_58 C hK hJ ) 5000 _ _ _ _ _ h hP hS (lv_sub hl [0, 2] rfl)
theorem metX5_faultBy_2_as0 (l : Launch) (D : va_G) (cy : Nat → ClassId) (ad st : Nat → Nat) (hJ : JX ad st) (sz : Nat)  {u : SX} {r : Int32} {u' : SX} (h : fX5_faultBy_2_as0  u = some (r, u')) : Met l yX5_faultBy wsX5_faultBy rmX5_faultBy_2_as0 (va_Pc [.ref (ad 2), .ref (st 0)] (Px D [(cy 0, .int), (cy 1, .long), (cy 2, .boolean), (cy 3, .byte), (cy 4, .object "HissHorn$Text")] st (VX cy ad st) sz u)) (Qi D (VX cy ad st) (AX ad) sz r u') 0 0 (Ax (AX ad) sz) := by
  refine Met.ofW (cc := cX5_faultBy) (maxL := 3) (ret := (some .int)) (by decide) rfl ?_
  intro p e s m args below meth c s₁ B hml hv
  obtain ⟨rfl, hsz, hP, hK⟩ := hv
  subst hsz
  have C : Cx RX5 cX5_faultBy 3 (some .int) wsX5_faultBy p s m _ meth c := ⟨B.exec, B.bytes, hml, B.returns, findClass_of_methodNamed B.named, atoms_spec (ws := wsX5_faultBy) B.pre, B.notSynchronized⟩
  have hl := lv_entry ([.ref (ad 2), .ref (st 0)]) (n := 3) (Nat.le_of_ble_eq_true rfl)
  rw [lg_entry_eq]
  exact wX5_faultBy_2_as0 C hK hJ h hP va_S.rf hl

/-- HissHorn$Parser.faultBy(Ljava/lang/String;)I of cell 2 -/
def rmX5_faultBy_2_as1 : Room := { frames := 70, cells := 0, slots := 0, locals := 4235 }
theorem hX5_faultBy_2_as1_X5 : ∀ w ∈ u_ws RX5 TX5 5, w ∈ wsX5_faultBy := fun w h => (List.mem_cons_of_mem _ (List.mem_append_left _ (List.mem_append_right _ h)))
theorem mX5_faultBy_2_as1_1 : Cond.fieldLink RX5 19 "HissHorn$Parser" "letters" "Ljava/lang/String;" ∈ wsX5_faultBy := (List.mem_cons_of_mem _ (List.mem_append_left _ (List.mem_append_left _ (List.mem_append_left _ (List.mem_of_getElem? (i := 0) rfl)))))
theorem mX5_faultBy_2_as1_2 : Cond.fieldLink RX5 27 "HissHorn$Parser" "at" "I" ∈ wsX5_faultBy := (List.mem_cons_of_mem _ (List.mem_append_left _ (List.mem_append_left _ (List.mem_append_left _ (List.mem_of_getElem? (i := 1) rfl)))))
theorem mX5_faultBy_2_as1_3 : Cond.fieldLink RX5 31 "HissHorn$Parser" "size" "I" ∈ wsX5_faultBy := (List.mem_cons_of_mem _ (List.mem_append_left _ (List.mem_append_left _ (List.mem_append_left _ (List.mem_of_getElem? (i := 2) rfl)))))
theorem mX5_faultBy_2_as1_4 : Cond.fieldLink RX5 23 "HissHorn$Parser" "tape" "LHissHorn$Tape;" ∈ wsX5_faultBy := (List.mem_cons_of_mem _ (List.mem_append_left _ (List.mem_append_left _ (List.mem_append_left _ (List.mem_of_getElem? (i := 3) rfl)))))
theorem hX5_faultBy_2_as1_X9 : ∀ w ∈ u_ws RX9 TX9 2, w ∈ wsX5_faultBy := fun w h => (List.mem_cons_of_mem _ (List.mem_append_right _ h))
theorem mX5_faultBy_2_as1_6 : Cond.fieldLink RX5 34 "HissHorn$Tape" "length" "I" ∈ wsX5_faultBy := (List.mem_cons_of_mem _ (List.mem_append_left _ (List.mem_append_left _ (List.mem_append_left _ (List.mem_of_getElem? (i := 4) rfl)))))
def LX5_faultBy_2_as1_17 (k49 : SX → Option (Int32 × SX)) (k58 : SX → Option (Int32 × SX)) : Nat → Int32 → SX → Option (Int32 × SX)
  | 0, _, _ => none
  | n + 1, z2, u => (if (u.1 1) < z2 then (k58 u) else ((fX5_clause_2  u).bind fun q => match q with | (r7, u8) => (if r7 = 0 then (some (u8.1 4, u8)) else ((fX5_takes_2 59 u8).bind fun q => match q with | (r10, u11) => (if r10 = 0 then (k49 u11) else ((LX5_faultBy_2_as1_17 k49 k58 n) (z2 + 1) u11))))))
def GX5_faultBy_2_as1_58  (u : SX) : Option (Int32 × SX) := ((fX5_peek_2  u).bind fun q => match q with | (r13, u14) => (if r13 = 0 then (some ((-1), u14)) else (some (u14.1 4, u14))))
def GX5_faultBy_2_as1_49  (u : SX) : Option (Int32 × SX) := (GX5_faultBy_2_as1_58 u)
def fX5_faultBy_2_as1  (u : SX) : Option (Int32 × SX) := (lt (sI u 3 1) fun u1 => (lt (sI u1 4 0) fun u3 => (lt (sI u3 2 0) fun u5 => (LX5_faultBy_2_as1_17 GX5_faultBy_2_as1_49 GX5_faultBy_2_as1_58 5000 0 u5))))
set_option maxHeartbeats 4000000 in
set_option maxRecDepth 100000 in
theorem wLX5_faultBy_2_as1_17 {p : Program} {l : Launch} {e : Env} {s : State} {m : MethodId} {args : Array Value} {below : List Frame} {meth : Method} {c : Code} {D : va_G} {cy : Nat → ClassId} {ad st : Nat → Nat} (C : Cx RX5 cX5_faultBy 3 (some .int) wsX5_faultBy p s m args meth c) (hK : Ky D [(cy 0, .int), (cy 1, .long), (cy 2, .boolean), (cy 3, .byte), (cy 4, .object "HissHorn$Text")] st s) (hJ : JX ad st) {r : Int32} {u' : SX} {k49 : SX → Option (Int32 × SX)} {k58 : SX → Option (Int32 × SX)} (hk49 : ∀  (u : SX) (H : Heap) (locs : List Loc) (ls : Array Slot), k49 u = some (r, u') → va_P D vwCl (VX cy ad st u) H → va_S (Ax (AX ad) s.heap.size) s.heap H locs → lv_has ls 3 [(0, .ref (ad 2))] → W p l e rmX5_faultBy_2_as1 s m args below meth c H locs 0 0 (MQ below (Qi D (VX cy ad st) (AX ad) s.heap.size r u') args s 0 0 (Ax (AX ad) s.heap.size)) (F0 m 49 ls [])) (hk58 : ∀  (u : SX) (H : Heap) (locs : List Loc) (ls : Array Slot), k58 u = some (r, u') → va_P D vwCl (VX cy ad st u) H → va_S (Ax (AX ad) s.heap.size) s.heap H locs → lv_has ls 3 [(0, .ref (ad 2))] → W p l e rmX5_faultBy_2_as1 s m args below meth c H locs 0 0 (MQ below (Qi D (VX cy ad st) (AX ad) s.heap.size r u') args s 0 0 (Ax (AX ad) s.heap.size)) (F0 m 58 ls [])) : ∀ (n : Nat) (z2 : Int32) (u : SX) (H : Heap) (locs : List Loc) (ls : Array Slot), LX5_faultBy_2_as1_17 k49 k58 n z2 u = some (r, u') → va_P D vwCl (VX cy ad st u) H → va_S (Ax (AX ad) s.heap.size) s.heap H locs → lv_has ls 3 [(0, .ref (ad 2)), (2, .int z2)] → W p l e rmX5_faultBy_2_as1 s m args below meth c H locs 0 0 (MQ below (Qi D (VX cy ad st) (AX ad) s.heap.size r u') args s 0 0 (Ax (AX ad) s.heap.size)) (F0 m 17 ls []) := by
  intro n
  induction n with
  | zero =>
    intro z2 u H locs ls h
    exact absurd h (by intro q; cases q)
  | succ n ih =>
    intro z2 u H locs ls h hP hS hl
    rw [LX5_faultBy_2_as1_17] at h
    refine lv_iload_n C.1 C.2.1 dX5_faultBy_17 rfl (lv_at hl 1 rfl) ?_
    refine lv_aload_n C.1 C.2.1 dX5_faultBy_18 rfl (lv_at hl 0 rfl) ?_
    refine gX_2_tape C hX5_faultBy_2_as1_X5 hK hP mX5_faultBy_2_as1_4 dX5_faultBy_19 ?_
    refine gX_1_length C hX5_faultBy_2_as1_X9 hK hP mX5_faultBy_2_as1_6 dX5_faultBy_22 ?_
    refine lv_icmp_gt (tgt := 58) C.1 C.2.1 dX5_faultBy_25 (by decide) (fun c25 => ?_) (fun c25 => ?_)
    · rw [if_pos c25] at h
      exact hk58 _ _ _ _ h hP hS (lv_sub hl [0] rfl)
    · rw [if_neg c25] at h
      refine lv_aload_n C.1 C.2.1 dX5_faultBy_28 rfl (lv_at hl 0 rfl) ?_
      obtain ⟨⟨r7, u8⟩, hc9, h⟩ := bd_some h
      try dsimp only at h
      refine cg_i (As := []) (rest := []) (AX_ge hJ) C hK hP hS (metX5_clause_2 l D cy ad st hJ _  hc9) (cwV 0 C.2.2.2.2.2.1 gX5_faultBy_X5_clause rfl rfl rfl (by decide +kernel) ⟨(Nat.le_of_ble_eq_true rfl), (Nat.le_of_ble_eq_true rfl)⟩) 2 5 rfl rfl rfl hl.1 rfl (Nat.le_of_ble_eq_true rfl) dX5_faultBy_29 ⟨Nat.zero_le _, Nat.zero_le _⟩ (fun H locs hP hS => ?_)
      refine lv_if_ne (tgt := 40) C.1 C.2.1 dX5_faultBy_32 (by decide) (fun c32 => ?_) (fun c32 => ?_)
      · rw [if_neg c32] at h
        refine lv_aload_n C.1 C.2.1 dX5_faultBy_40 rfl (lv_at hl 0 rfl) ?_
        refine lv_bipush (v := 59) C.1 C.2.1 dX5_faultBy_41 (by decide) ?_
        obtain ⟨⟨r10, u11⟩, hc12, h⟩ := bd_some h
        try dsimp only at h
        refine cg_i (As := [.int 59]) (rest := []) (AX_ge hJ) C hK hP hS (metX5_takes_2 l D cy ad st hJ _ 59 hc12) (cwV 1 C.2.2.2.2.2.1 gX5_faultBy_X5_takes rfl rfl rfl (by decide +kernel) ⟨(Nat.le_of_ble_eq_true rfl), (Nat.le_of_ble_eq_true rfl)⟩) 2 5 rfl rfl rfl hl.1 rfl (Nat.le_of_ble_eq_true rfl) dX5_faultBy_43 ⟨Nat.zero_le _, Nat.zero_le _⟩ (fun H locs hP hS => ?_)
        refine lv_if_ne (tgt := 52) C.1 C.2.1 dX5_faultBy_46 (by decide) (fun c46 => ?_) (fun c46 => ?_)
        · rw [if_neg c46] at h
          refine lv_iinc (v := z2 + 1) (lv' := [(2, .int (z2 + 1)), (0, .ref (ad 2))]) C.1 C.2.1 dX5_faultBy_52 hl (k := 1) rfl rfl (by decide) rfl (fun ls hl => ?_)
          replace hl := lv_sub (l' := [(0, .ref (ad 2)), (2, .int (z2 + 1))]) hl [1, 0] rfl
          refine lv_goto (tgt := 17) C.1 C.2.1 dX5_faultBy_55 (by decide) ?_
          exact ih _ _ _ _ _ h hP hS hl
        · rw [if_pos c46] at h
          exact hk49 _ _ _ _ h hP hS (lv_sub hl [0] rfl)
      · rw [if_pos c32] at h
        refine lv_aload_n C.1 C.2.1 dX5_faultBy_35 rfl (lv_at hl 0 rfl) ?_
        refine gX_2_at C hX5_faultBy_2_as1_X5 hK hP mX5_faultBy_2_as1_2 dX5_faultBy_36 ?_
        cases h
        exact rt_i C hP hS dX5_faultBy_39
set_option maxHeartbeats 4000000 in
set_option maxRecDepth 100000 in
theorem wGX5_faultBy_2_as1_58 {p : Program} {l : Launch} {e : Env} {s : State} {m : MethodId} {args : Array Value} {below : List Frame} {meth : Method} {c : Code} {D : va_G} {cy : Nat → ClassId} {ad st : Nat → Nat} (C : Cx RX5 cX5_faultBy 3 (some .int) wsX5_faultBy p s m args meth c) (hK : Ky D [(cy 0, .int), (cy 1, .long), (cy 2, .boolean), (cy 3, .byte), (cy 4, .object "HissHorn$Text")] st s) (hJ : JX ad st) {r : Int32} {u' : SX}   (u : SX) (H : Heap) (locs : List Loc) (ls : Array Slot) (h : GX5_faultBy_2_as1_58  u = some (r, u')) (hP : va_P D vwCl (VX cy ad st u) H) (hS : va_S (Ax (AX ad) s.heap.size) s.heap H locs) (hl : lv_has ls 3 [(0, .ref (ad 2))]) : W p l e rmX5_faultBy_2_as1 s m args below meth c H locs 0 0 (MQ below (Qi D (VX cy ad st) (AX ad) s.heap.size r u') args s 0 0 (Ax (AX ad) s.heap.size)) (F0 m 58 ls []) := by
  unfold GX5_faultBy_2_as1_58 at h
  refine lv_aload_n C.1 C.2.1 dX5_faultBy_58 rfl (lv_at hl 0 rfl) ?_
  obtain ⟨⟨r13, u14⟩, hc15, h⟩ := bd_some h
  try dsimp only at h
  refine cg_i (As := []) (rest := []) (AX_ge hJ) C hK hP hS (metX5_peek_2 l D cy ad st hJ _  hc15) (cwV 0 C.2.2.2.2.2.1 gX5_faultBy_X5_peek rfl rfl rfl (by decide +kernel) ⟨(Nat.le_of_ble_eq_true rfl), (Nat.le_of_ble_eq_true rfl)⟩) 2 5 rfl rfl rfl hl.1 rfl (Nat.le_of_ble_eq_true rfl) dX5_faultBy_59 ⟨Nat.zero_le _, Nat.zero_le _⟩ (fun H locs hP hS => ?_)
  refine lv_if_ne (tgt := 69) C.1 C.2.1 dX5_faultBy_62 (by decide) (fun c62 => ?_) (fun c62 => ?_)
  · rw [if_neg c62] at h
    refine lv_aload_n C.1 C.2.1 dX5_faultBy_69 rfl (lv_at hl 0 rfl) ?_
    refine gX_2_at C hX5_faultBy_2_as1_X5 hK hP mX5_faultBy_2_as1_2 dX5_faultBy_70 ?_
    cases h
    exact rt_i C hP hS dX5_faultBy_73
  · rw [if_pos c62] at h
    refine lv_iconst (v := (-1)) C.1 C.2.1 dX5_faultBy_65 (by decide) ?_
    refine lv_goto (tgt := 73) C.1 C.2.1 dX5_faultBy_66 (by decide) ?_
    cases h
    exact rt_i C hP hS dX5_faultBy_73
set_option maxHeartbeats 4000000 in
set_option maxRecDepth 100000 in
theorem wGX5_faultBy_2_as1_49 {p : Program} {l : Launch} {e : Env} {s : State} {m : MethodId} {args : Array Value} {below : List Frame} {meth : Method} {c : Code} {D : va_G} {cy : Nat → ClassId} {ad st : Nat → Nat} (C : Cx RX5 cX5_faultBy 3 (some .int) wsX5_faultBy p s m args meth c) (hK : Ky D [(cy 0, .int), (cy 1, .long), (cy 2, .boolean), (cy 3, .byte), (cy 4, .object "HissHorn$Text")] st s) (hJ : JX ad st) {r : Int32} {u' : SX}   (u : SX) (H : Heap) (locs : List Loc) (ls : Array Slot) (h : GX5_faultBy_2_as1_49  u = some (r, u')) (hP : va_P D vwCl (VX cy ad st u) H) (hS : va_S (Ax (AX ad) s.heap.size) s.heap H locs) (hl : lv_has ls 3 [(0, .ref (ad 2))]) : W p l e rmX5_faultBy_2_as1 s m args below meth c H locs 0 0 (MQ below (Qi D (VX cy ad st) (AX ad) s.heap.size r u') args s 0 0 (Ax (AX ad) s.heap.size)) (F0 m 49 ls []) := by
  unfold GX5_faultBy_2_as1_49 at h
  refine lv_goto (tgt := 58) C.1 C.2.1 dX5_faultBy_49 (by decide) ?_
  exact wGX5_faultBy_2_as1_58 C hK hJ _ _ _ _ h hP hS hl
set_option maxHeartbeats 4000000 in
set_option maxRecDepth 100000 in
theorem wX5_faultBy_2_as1 {p : Program} {l : Launch} {e : Env} {s : State} {m : MethodId} {args : Array Value} {below : List Frame} {meth : Method} {c : Code} {D : va_G} {cy : Nat → ClassId} {ad st : Nat → Nat} (C : Cx RX5 cX5_faultBy 3 (some .int) wsX5_faultBy p s m args meth c) (hK : Ky D [(cy 0, .int), (cy 1, .long), (cy 2, .boolean), (cy 3, .byte), (cy 4, .object "HissHorn$Text")] st s) (hJ : JX ad st)  {u : SX} {r : Int32} {u' : SX} {H : Heap} {locs : List Loc} {ls : Array Slot} (h : fX5_faultBy_2_as1  u = some (r, u')) (hP : va_P D vwCl (VX cy ad st u) H) (hS : va_S (Ax (AX ad) s.heap.size) s.heap H locs) (hl : lv_has ls 3 [(0, .ref (ad 2)), (1, .ref (st 1))]) : W p l e rmX5_faultBy_2_as1 s m args below meth c H locs 0 0 (MQ below (Qi D (VX cy ad st) (AX ad) s.heap.size r u') args s 0 0 (Ax (AX ad) s.heap.size)) (F0 m 0 ls []) := by
  unfold fX5_faultBy_2_as1 at h
  refine lv_aload_n C.1 C.2.1 dX5_faultBy_0 rfl (lv_at hl 0 rfl) ?_
  refine lv_aload_n C.1 C.2.1 dX5_faultBy_1 rfl (lv_at hl 1 rfl) ?_
  refine pX_2_letters (v := 1) C hX5_faultBy_2_as1_X5 hK hP hJ hS mX5_faultBy_2_as1_1 dX5_faultBy_2 (fun H locs hP hS => ?_)
  obtain ⟨u1, hu2, h⟩ := lt_some h
  rw [← hu2] at hP
  refine lv_aload_n C.1 C.2.1 dX5_faultBy_5 rfl (lv_at hl 0 rfl) ?_
  refine lv_iconst (v := 0) C.1 C.2.1 dX5_faultBy_6 (by decide) ?_
  refine pX_2_at C hX5_faultBy_2_as1_X5 hK hP hJ hS mX5_faultBy_2_as1_2 dX5_faultBy_7 (fun H locs hP hS => ?_)
  obtain ⟨u3, hu4, h⟩ := lt_some h
  rw [← hu4] at hP
  refine lv_aload_n C.1 C.2.1 dX5_faultBy_10 rfl (lv_at hl 0 rfl) ?_
  refine lv_iconst (v := 0) C.1 C.2.1 dX5_faultBy_11 (by decide) ?_
  refine pX_2_size C hX5_faultBy_2_as1_X5 hK hP hJ hS mX5_faultBy_2_as1_3 dX5_faultBy_12 (fun H locs hP hS => ?_)
  obtain ⟨u5, hu6, h⟩ := lt_some h
  rw [← hu6] at hP
  refine lv_iconst (v := 0) C.1 C.2.1 dX5_faultBy_15 (by decide) ?_
  refine lv_istore_n (lv' := [(2, .int 0), (0, .ref (ad 2)), (1, .ref (st 1))]) C.1 C.2.1 dX5_faultBy_16 rfl hl (by decide) rfl (fun ls hl => ?_)
  replace hl := lv_sub (l' := [(0, .ref (ad 2)), (1, .ref (st 1)), (2, .int 0)]) hl [1, 2, 0] rfl
  exact wLX5_faultBy_2_as1_17 C hK hJ (wGX5_faultBy_2_as1_49 C hK hJ ) (wGX5_faultBy_2_as1_58 C hK hJ ) 5000 _ _ _ _ _ h hP hS (lv_sub hl [0, 2] rfl)
theorem metX5_faultBy_2_as1 (l : Launch) (D : va_G) (cy : Nat → ClassId) (ad st : Nat → Nat) (hJ : JX ad st) (sz : Nat)  {u : SX} {r : Int32} {u' : SX} (h : fX5_faultBy_2_as1  u = some (r, u')) : Met l yX5_faultBy wsX5_faultBy rmX5_faultBy_2_as1 (va_Pc [.ref (ad 2), .ref (st 1)] (Px D [(cy 0, .int), (cy 1, .long), (cy 2, .boolean), (cy 3, .byte), (cy 4, .object "HissHorn$Text")] st (VX cy ad st) sz u)) (Qi D (VX cy ad st) (AX ad) sz r u') 0 0 (Ax (AX ad) sz) := by
  refine Met.ofW (cc := cX5_faultBy) (maxL := 3) (ret := (some .int)) (by decide) rfl ?_
  intro p e s m args below meth c s₁ B hml hv
  obtain ⟨rfl, hsz, hP, hK⟩ := hv
  subst hsz
  have C : Cx RX5 cX5_faultBy 3 (some .int) wsX5_faultBy p s m _ meth c := ⟨B.exec, B.bytes, hml, B.returns, findClass_of_methodNamed B.named, atoms_spec (ws := wsX5_faultBy) B.pre, B.notSynchronized⟩
  have hl := lv_entry ([.ref (ad 2), .ref (st 1)]) (n := 3) (Nat.le_of_ble_eq_true rfl)
  rw [lg_entry_eq]
  exact wX5_faultBy_2_as1 C hK hJ h hP va_S.rf hl

/-- HissHorn$Parser.faultBy(Ljava/lang/String;)I of cell 2 -/
def rmX5_faultBy_2_as2 : Room := { frames := 70, cells := 0, slots := 0, locals := 4235 }
theorem hX5_faultBy_2_as2_X5 : ∀ w ∈ u_ws RX5 TX5 5, w ∈ wsX5_faultBy := fun w h => (List.mem_cons_of_mem _ (List.mem_append_left _ (List.mem_append_right _ h)))
theorem mX5_faultBy_2_as2_1 : Cond.fieldLink RX5 19 "HissHorn$Parser" "letters" "Ljava/lang/String;" ∈ wsX5_faultBy := (List.mem_cons_of_mem _ (List.mem_append_left _ (List.mem_append_left _ (List.mem_append_left _ (List.mem_of_getElem? (i := 0) rfl)))))
theorem mX5_faultBy_2_as2_2 : Cond.fieldLink RX5 27 "HissHorn$Parser" "at" "I" ∈ wsX5_faultBy := (List.mem_cons_of_mem _ (List.mem_append_left _ (List.mem_append_left _ (List.mem_append_left _ (List.mem_of_getElem? (i := 1) rfl)))))
theorem mX5_faultBy_2_as2_3 : Cond.fieldLink RX5 31 "HissHorn$Parser" "size" "I" ∈ wsX5_faultBy := (List.mem_cons_of_mem _ (List.mem_append_left _ (List.mem_append_left _ (List.mem_append_left _ (List.mem_of_getElem? (i := 2) rfl)))))
theorem mX5_faultBy_2_as2_4 : Cond.fieldLink RX5 23 "HissHorn$Parser" "tape" "LHissHorn$Tape;" ∈ wsX5_faultBy := (List.mem_cons_of_mem _ (List.mem_append_left _ (List.mem_append_left _ (List.mem_append_left _ (List.mem_of_getElem? (i := 3) rfl)))))
theorem hX5_faultBy_2_as2_X9 : ∀ w ∈ u_ws RX9 TX9 2, w ∈ wsX5_faultBy := fun w h => (List.mem_cons_of_mem _ (List.mem_append_right _ h))
theorem mX5_faultBy_2_as2_6 : Cond.fieldLink RX5 34 "HissHorn$Tape" "length" "I" ∈ wsX5_faultBy := (List.mem_cons_of_mem _ (List.mem_append_left _ (List.mem_append_left _ (List.mem_append_left _ (List.mem_of_getElem? (i := 4) rfl)))))
def LX5_faultBy_2_as2_17 (k49 : SX → Option (Int32 × SX)) (k58 : SX → Option (Int32 × SX)) : Nat → Int32 → SX → Option (Int32 × SX)
  | 0, _, _ => none
  | n + 1, z2, u => (if (u.1 1) < z2 then (k58 u) else ((fX5_clause_2  u).bind fun q => match q with | (r7, u8) => (if r7 = 0 then (some (u8.1 4, u8)) else ((fX5_takes_2 59 u8).bind fun q => match q with | (r10, u11) => (if r10 = 0 then (k49 u11) else ((LX5_faultBy_2_as2_17 k49 k58 n) (z2 + 1) u11))))))
def GX5_faultBy_2_as2_58  (u : SX) : Option (Int32 × SX) := ((fX5_peek_2  u).bind fun q => match q with | (r13, u14) => (if r13 = 0 then (some ((-1), u14)) else (some (u14.1 4, u14))))
def GX5_faultBy_2_as2_49  (u : SX) : Option (Int32 × SX) := (GX5_faultBy_2_as2_58 u)
def fX5_faultBy_2_as2  (u : SX) : Option (Int32 × SX) := (lt (sI u 3 2) fun u1 => (lt (sI u1 4 0) fun u3 => (lt (sI u3 2 0) fun u5 => (LX5_faultBy_2_as2_17 GX5_faultBy_2_as2_49 GX5_faultBy_2_as2_58 5000 0 u5))))
set_option maxHeartbeats 4000000 in
set_option maxRecDepth 100000 in
theorem wLX5_faultBy_2_as2_17 {p : Program} {l : Launch} {e : Env} {s : State} {m : MethodId} {args : Array Value} {below : List Frame} {meth : Method} {c : Code} {D : va_G} {cy : Nat → ClassId} {ad st : Nat → Nat} (C : Cx RX5 cX5_faultBy 3 (some .int) wsX5_faultBy p s m args meth c) (hK : Ky D [(cy 0, .int), (cy 1, .long), (cy 2, .boolean), (cy 3, .byte), (cy 4, .object "HissHorn$Text")] st s) (hJ : JX ad st) {r : Int32} {u' : SX} {k49 : SX → Option (Int32 × SX)} {k58 : SX → Option (Int32 × SX)} (hk49 : ∀  (u : SX) (H : Heap) (locs : List Loc) (ls : Array Slot), k49 u = some (r, u') → va_P D vwCl (VX cy ad st u) H → va_S (Ax (AX ad) s.heap.size) s.heap H locs → lv_has ls 3 [(0, .ref (ad 2))] → W p l e rmX5_faultBy_2_as2 s m args below meth c H locs 0 0 (MQ below (Qi D (VX cy ad st) (AX ad) s.heap.size r u') args s 0 0 (Ax (AX ad) s.heap.size)) (F0 m 49 ls [])) (hk58 : ∀  (u : SX) (H : Heap) (locs : List Loc) (ls : Array Slot), k58 u = some (r, u') → va_P D vwCl (VX cy ad st u) H → va_S (Ax (AX ad) s.heap.size) s.heap H locs → lv_has ls 3 [(0, .ref (ad 2))] → W p l e rmX5_faultBy_2_as2 s m args below meth c H locs 0 0 (MQ below (Qi D (VX cy ad st) (AX ad) s.heap.size r u') args s 0 0 (Ax (AX ad) s.heap.size)) (F0 m 58 ls [])) : ∀ (n : Nat) (z2 : Int32) (u : SX) (H : Heap) (locs : List Loc) (ls : Array Slot), LX5_faultBy_2_as2_17 k49 k58 n z2 u = some (r, u') → va_P D vwCl (VX cy ad st u) H → va_S (Ax (AX ad) s.heap.size) s.heap H locs → lv_has ls 3 [(0, .ref (ad 2)), (2, .int z2)] → W p l e rmX5_faultBy_2_as2 s m args below meth c H locs 0 0 (MQ below (Qi D (VX cy ad st) (AX ad) s.heap.size r u') args s 0 0 (Ax (AX ad) s.heap.size)) (F0 m 17 ls []) := by
  intro n
  induction n with
  | zero =>
    intro z2 u H locs ls h
    exact absurd h (by intro q; cases q)
  | succ n ih =>
    intro z2 u H locs ls h hP hS hl
    rw [LX5_faultBy_2_as2_17] at h
    refine lv_iload_n C.1 C.2.1 dX5_faultBy_17 rfl (lv_at hl 1 rfl) ?_
    refine lv_aload_n C.1 C.2.1 dX5_faultBy_18 rfl (lv_at hl 0 rfl) ?_
    refine gX_2_tape C hX5_faultBy_2_as2_X5 hK hP mX5_faultBy_2_as2_4 dX5_faultBy_19 ?_
    refine gX_1_length C hX5_faultBy_2_as2_X9 hK hP mX5_faultBy_2_as2_6 dX5_faultBy_22 ?_
    refine lv_icmp_gt (tgt := 58) C.1 C.2.1 dX5_faultBy_25 (by decide) (fun c25 => ?_) (fun c25 => ?_)
    · rw [if_pos c25] at h
      exact hk58 _ _ _ _ h hP hS (lv_sub hl [0] rfl)
    · rw [if_neg c25] at h
      refine lv_aload_n C.1 C.2.1 dX5_faultBy_28 rfl (lv_at hl 0 rfl) ?_
      obtain ⟨⟨r7, u8⟩, hc9, h⟩ := bd_some h
      try dsimp only at h
      refine cg_i (As := []) (rest := []) (AX_ge hJ) C hK hP hS (metX5_clause_2 l D cy ad st hJ _  hc9) (cwV 0 C.2.2.2.2.2.1 gX5_faultBy_X5_clause rfl rfl rfl (by decide +kernel) ⟨(Nat.le_of_ble_eq_true rfl), (Nat.le_of_ble_eq_true rfl)⟩) 2 5 rfl rfl rfl hl.1 rfl (Nat.le_of_ble_eq_true rfl) dX5_faultBy_29 ⟨Nat.zero_le _, Nat.zero_le _⟩ (fun H locs hP hS => ?_)
      refine lv_if_ne (tgt := 40) C.1 C.2.1 dX5_faultBy_32 (by decide) (fun c32 => ?_) (fun c32 => ?_)
      · rw [if_neg c32] at h
        refine lv_aload_n C.1 C.2.1 dX5_faultBy_40 rfl (lv_at hl 0 rfl) ?_
        refine lv_bipush (v := 59) C.1 C.2.1 dX5_faultBy_41 (by decide) ?_
        obtain ⟨⟨r10, u11⟩, hc12, h⟩ := bd_some h
        try dsimp only at h
        refine cg_i (As := [.int 59]) (rest := []) (AX_ge hJ) C hK hP hS (metX5_takes_2 l D cy ad st hJ _ 59 hc12) (cwV 1 C.2.2.2.2.2.1 gX5_faultBy_X5_takes rfl rfl rfl (by decide +kernel) ⟨(Nat.le_of_ble_eq_true rfl), (Nat.le_of_ble_eq_true rfl)⟩) 2 5 rfl rfl rfl hl.1 rfl (Nat.le_of_ble_eq_true rfl) dX5_faultBy_43 ⟨Nat.zero_le _, Nat.zero_le _⟩ (fun H locs hP hS => ?_)
        refine lv_if_ne (tgt := 52) C.1 C.2.1 dX5_faultBy_46 (by decide) (fun c46 => ?_) (fun c46 => ?_)
        · rw [if_neg c46] at h
          refine lv_iinc (v := z2 + 1) (lv' := [(2, .int (z2 + 1)), (0, .ref (ad 2))]) C.1 C.2.1 dX5_faultBy_52 hl (k := 1) rfl rfl (by decide) rfl (fun ls hl => ?_)
          replace hl := lv_sub (l' := [(0, .ref (ad 2)), (2, .int (z2 + 1))]) hl [1, 0] rfl
          refine lv_goto (tgt := 17) C.1 C.2.1 dX5_faultBy_55 (by decide) ?_
          exact ih _ _ _ _ _ h hP hS hl
        · rw [if_pos c46] at h
          exact hk49 _ _ _ _ h hP hS (lv_sub hl [0] rfl)
      · rw [if_pos c32] at h
        refine lv_aload_n C.1 C.2.1 dX5_faultBy_35 rfl (lv_at hl 0 rfl) ?_
        refine gX_2_at C hX5_faultBy_2_as2_X5 hK hP mX5_faultBy_2_as2_2 dX5_faultBy_36 ?_
        cases h
        exact rt_i C hP hS dX5_faultBy_39
set_option maxHeartbeats 4000000 in
set_option maxRecDepth 100000 in
theorem wGX5_faultBy_2_as2_58 {p : Program} {l : Launch} {e : Env} {s : State} {m : MethodId} {args : Array Value} {below : List Frame} {meth : Method} {c : Code} {D : va_G} {cy : Nat → ClassId} {ad st : Nat → Nat} (C : Cx RX5 cX5_faultBy 3 (some .int) wsX5_faultBy p s m args meth c) (hK : Ky D [(cy 0, .int), (cy 1, .long), (cy 2, .boolean), (cy 3, .byte), (cy 4, .object "HissHorn$Text")] st s) (hJ : JX ad st) {r : Int32} {u' : SX}   (u : SX) (H : Heap) (locs : List Loc) (ls : Array Slot) (h : GX5_faultBy_2_as2_58  u = some (r, u')) (hP : va_P D vwCl (VX cy ad st u) H) (hS : va_S (Ax (AX ad) s.heap.size) s.heap H locs) (hl : lv_has ls 3 [(0, .ref (ad 2))]) : W p l e rmX5_faultBy_2_as2 s m args below meth c H locs 0 0 (MQ below (Qi D (VX cy ad st) (AX ad) s.heap.size r u') args s 0 0 (Ax (AX ad) s.heap.size)) (F0 m 58 ls []) := by
  unfold GX5_faultBy_2_as2_58 at h
  refine lv_aload_n C.1 C.2.1 dX5_faultBy_58 rfl (lv_at hl 0 rfl) ?_
  obtain ⟨⟨r13, u14⟩, hc15, h⟩ := bd_some h
  try dsimp only at h
  refine cg_i (As := []) (rest := []) (AX_ge hJ) C hK hP hS (metX5_peek_2 l D cy ad st hJ _  hc15) (cwV 0 C.2.2.2.2.2.1 gX5_faultBy_X5_peek rfl rfl rfl (by decide +kernel) ⟨(Nat.le_of_ble_eq_true rfl), (Nat.le_of_ble_eq_true rfl)⟩) 2 5 rfl rfl rfl hl.1 rfl (Nat.le_of_ble_eq_true rfl) dX5_faultBy_59 ⟨Nat.zero_le _, Nat.zero_le _⟩ (fun H locs hP hS => ?_)
  refine lv_if_ne (tgt := 69) C.1 C.2.1 dX5_faultBy_62 (by decide) (fun c62 => ?_) (fun c62 => ?_)
  · rw [if_neg c62] at h
    refine lv_aload_n C.1 C.2.1 dX5_faultBy_69 rfl (lv_at hl 0 rfl) ?_
    refine gX_2_at C hX5_faultBy_2_as2_X5 hK hP mX5_faultBy_2_as2_2 dX5_faultBy_70 ?_
    cases h
    exact rt_i C hP hS dX5_faultBy_73
  · rw [if_pos c62] at h
    refine lv_iconst (v := (-1)) C.1 C.2.1 dX5_faultBy_65 (by decide) ?_
    refine lv_goto (tgt := 73) C.1 C.2.1 dX5_faultBy_66 (by decide) ?_
    cases h
    exact rt_i C hP hS dX5_faultBy_73
set_option maxHeartbeats 4000000 in
set_option maxRecDepth 100000 in
theorem wGX5_faultBy_2_as2_49 {p : Program} {l : Launch} {e : Env} {s : State} {m : MethodId} {args : Array Value} {below : List Frame} {meth : Method} {c : Code} {D : va_G} {cy : Nat → ClassId} {ad st : Nat → Nat} (C : Cx RX5 cX5_faultBy 3 (some .int) wsX5_faultBy p s m args meth c) (hK : Ky D [(cy 0, .int), (cy 1, .long), (cy 2, .boolean), (cy 3, .byte), (cy 4, .object "HissHorn$Text")] st s) (hJ : JX ad st) {r : Int32} {u' : SX}   (u : SX) (H : Heap) (locs : List Loc) (ls : Array Slot) (h : GX5_faultBy_2_as2_49  u = some (r, u')) (hP : va_P D vwCl (VX cy ad st u) H) (hS : va_S (Ax (AX ad) s.heap.size) s.heap H locs) (hl : lv_has ls 3 [(0, .ref (ad 2))]) : W p l e rmX5_faultBy_2_as2 s m args below meth c H locs 0 0 (MQ below (Qi D (VX cy ad st) (AX ad) s.heap.size r u') args s 0 0 (Ax (AX ad) s.heap.size)) (F0 m 49 ls []) := by
  unfold GX5_faultBy_2_as2_49 at h
  refine lv_goto (tgt := 58) C.1 C.2.1 dX5_faultBy_49 (by decide) ?_
  exact wGX5_faultBy_2_as2_58 C hK hJ _ _ _ _ h hP hS hl
set_option maxHeartbeats 4000000 in
set_option maxRecDepth 100000 in
theorem wX5_faultBy_2_as2 {p : Program} {l : Launch} {e : Env} {s : State} {m : MethodId} {args : Array Value} {below : List Frame} {meth : Method} {c : Code} {D : va_G} {cy : Nat → ClassId} {ad st : Nat → Nat} (C : Cx RX5 cX5_faultBy 3 (some .int) wsX5_faultBy p s m args meth c) (hK : Ky D [(cy 0, .int), (cy 1, .long), (cy 2, .boolean), (cy 3, .byte), (cy 4, .object "HissHorn$Text")] st s) (hJ : JX ad st)  {u : SX} {r : Int32} {u' : SX} {H : Heap} {locs : List Loc} {ls : Array Slot} (h : fX5_faultBy_2_as2  u = some (r, u')) (hP : va_P D vwCl (VX cy ad st u) H) (hS : va_S (Ax (AX ad) s.heap.size) s.heap H locs) (hl : lv_has ls 3 [(0, .ref (ad 2)), (1, .ref (st 2))]) : W p l e rmX5_faultBy_2_as2 s m args below meth c H locs 0 0 (MQ below (Qi D (VX cy ad st) (AX ad) s.heap.size r u') args s 0 0 (Ax (AX ad) s.heap.size)) (F0 m 0 ls []) := by
  unfold fX5_faultBy_2_as2 at h
  refine lv_aload_n C.1 C.2.1 dX5_faultBy_0 rfl (lv_at hl 0 rfl) ?_
  refine lv_aload_n C.1 C.2.1 dX5_faultBy_1 rfl (lv_at hl 1 rfl) ?_
  refine pX_2_letters (v := 2) C hX5_faultBy_2_as2_X5 hK hP hJ hS mX5_faultBy_2_as2_1 dX5_faultBy_2 (fun H locs hP hS => ?_)
  obtain ⟨u1, hu2, h⟩ := lt_some h
  rw [← hu2] at hP
  refine lv_aload_n C.1 C.2.1 dX5_faultBy_5 rfl (lv_at hl 0 rfl) ?_
  refine lv_iconst (v := 0) C.1 C.2.1 dX5_faultBy_6 (by decide) ?_
  refine pX_2_at C hX5_faultBy_2_as2_X5 hK hP hJ hS mX5_faultBy_2_as2_2 dX5_faultBy_7 (fun H locs hP hS => ?_)
  obtain ⟨u3, hu4, h⟩ := lt_some h
  rw [← hu4] at hP
  refine lv_aload_n C.1 C.2.1 dX5_faultBy_10 rfl (lv_at hl 0 rfl) ?_
  refine lv_iconst (v := 0) C.1 C.2.1 dX5_faultBy_11 (by decide) ?_
  refine pX_2_size C hX5_faultBy_2_as2_X5 hK hP hJ hS mX5_faultBy_2_as2_3 dX5_faultBy_12 (fun H locs hP hS => ?_)
  obtain ⟨u5, hu6, h⟩ := lt_some h
  rw [← hu6] at hP
  refine lv_iconst (v := 0) C.1 C.2.1 dX5_faultBy_15 (by decide) ?_
  refine lv_istore_n (lv' := [(2, .int 0), (0, .ref (ad 2)), (1, .ref (st 2))]) C.1 C.2.1 dX5_faultBy_16 rfl hl (by decide) rfl (fun ls hl => ?_)
  replace hl := lv_sub (l' := [(0, .ref (ad 2)), (1, .ref (st 2)), (2, .int 0)]) hl [1, 2, 0] rfl
  exact wLX5_faultBy_2_as2_17 C hK hJ (wGX5_faultBy_2_as2_49 C hK hJ ) (wGX5_faultBy_2_as2_58 C hK hJ ) 5000 _ _ _ _ _ h hP hS (lv_sub hl [0, 2] rfl)
theorem metX5_faultBy_2_as2 (l : Launch) (D : va_G) (cy : Nat → ClassId) (ad st : Nat → Nat) (hJ : JX ad st) (sz : Nat)  {u : SX} {r : Int32} {u' : SX} (h : fX5_faultBy_2_as2  u = some (r, u')) : Met l yX5_faultBy wsX5_faultBy rmX5_faultBy_2_as2 (va_Pc [.ref (ad 2), .ref (st 2)] (Px D [(cy 0, .int), (cy 1, .long), (cy 2, .boolean), (cy 3, .byte), (cy 4, .object "HissHorn$Text")] st (VX cy ad st) sz u)) (Qi D (VX cy ad st) (AX ad) sz r u') 0 0 (Ax (AX ad) sz) := by
  refine Met.ofW (cc := cX5_faultBy) (maxL := 3) (ret := (some .int)) (by decide) rfl ?_
  intro p e s m args below meth c s₁ B hml hv
  obtain ⟨rfl, hsz, hP, hK⟩ := hv
  subst hsz
  have C : Cx RX5 cX5_faultBy 3 (some .int) wsX5_faultBy p s m _ meth c := ⟨B.exec, B.bytes, hml, B.returns, findClass_of_methodNamed B.named, atoms_spec (ws := wsX5_faultBy) B.pre, B.notSynchronized⟩
  have hl := lv_entry ([.ref (ad 2), .ref (st 2)]) (n := 3) (Nat.le_of_ble_eq_true rfl)
  rw [lg_entry_eq]
  exact wX5_faultBy_2_as2 C hK hJ h hP va_S.rf hl

theorem zdX11_fault_0 : (and (and (and (and (zk cX11_fault 0 (.aload_n 0) 1) (zk cX11_fault 1 (.iload_n 1) 1)) (and (zk cX11_fault 2 (.invokevirtual 122) 3) (zk cX11_fault 5 (.astore_n 2) 1))) (and (and (zk cX11_fault 6 (.aload_n 2) 1) (zk cX11_fault 7 (.ifnonnull 8) 3)) (zk cX11_fault 10 (.bipush (-2)) 2))) (and (and (and (zk cX11_fault 12 (.goto 14) 3) (zk cX11_fault 26 (.ireturn) 1)) (and (zk cX11_fault 15 (.aload_n 0) 1) (zk cX11_fault 16 (.getfield 21) 3))) (and (and (zk cX11_fault 19 (.aload_n 2) 1) (zk cX11_fault 20 (.getfield 126) 3)) (zk cX11_fault 23 (.invokevirtual 130) 3)))) = true := by decide +kernel
theorem dX11_fault_0 : decode cX11_fault 0 = .ok (.aload_n 0, 1) := zk_of (zk_l (zk_l (zk_l (zk_l zdX11_fault_0))))
theorem dX11_fault_1 : decode cX11_fault 1 = .ok (.iload_n 1, 1) := zk_of (zk_r (zk_l (zk_l (zk_l zdX11_fault_0))))
theorem dX11_fault_2 : decode cX11_fault 2 = .ok (.invokevirtual 122, 3) := zk_of (zk_l (zk_r (zk_l (zk_l zdX11_fault_0))))
theorem dX11_fault_5 : decode cX11_fault 5 = .ok (.astore_n 2, 1) := zk_of (zk_r (zk_r (zk_l (zk_l zdX11_fault_0))))
theorem dX11_fault_6 : decode cX11_fault 6 = .ok (.aload_n 2, 1) := zk_of (zk_l (zk_l (zk_r (zk_l zdX11_fault_0))))
theorem dX11_fault_7 : decode cX11_fault 7 = .ok (.ifnonnull 8, 3) := zk_of (zk_r (zk_l (zk_r (zk_l zdX11_fault_0))))
theorem dX11_fault_10 : decode cX11_fault 10 = .ok (.bipush (-2), 2) := zk_of (zk_r (zk_r (zk_l zdX11_fault_0)))
theorem dX11_fault_12 : decode cX11_fault 12 = .ok (.goto 14, 3) := zk_of (zk_l (zk_l (zk_l (zk_r zdX11_fault_0))))
theorem dX11_fault_26 : decode cX11_fault 26 = .ok (.ireturn, 1) := zk_of (zk_r (zk_l (zk_l (zk_r zdX11_fault_0))))
theorem dX11_fault_15 : decode cX11_fault 15 = .ok (.aload_n 0, 1) := zk_of (zk_l (zk_r (zk_l (zk_r zdX11_fault_0))))
theorem dX11_fault_16 : decode cX11_fault 16 = .ok (.getfield 21, 3) := zk_of (zk_r (zk_r (zk_l (zk_r zdX11_fault_0))))
theorem dX11_fault_19 : decode cX11_fault 19 = .ok (.aload_n 2, 1) := zk_of (zk_l (zk_l (zk_r (zk_r zdX11_fault_0))))
theorem dX11_fault_20 : decode cX11_fault 20 = .ok (.getfield 126, 3) := zk_of (zk_r (zk_l (zk_r (zk_r zdX11_fault_0))))
theorem dX11_fault_23 : decode cX11_fault 23 = .ok (.invokevirtual 130, 3) := zk_of (zk_r (zk_r (zk_r zdX11_fault_0)))
set_option maxRecDepth 20000 in
theorem ggX11_fault_X11_shelfOf : GoodIn wsX11_fault wsX11_shelfOf := ggi (fun w h => List.mem_cons_of_mem _ (List.mem_append_left _ (List.mem_append_left _ (List.mem_append_left _ (List.mem_append_left _ (List.mem_append_right _ (List.mem_append_left _ h))))))) gs_X11_shelfOf
set_option maxRecDepth 20000 in
theorem gX11_fault_X11_shelfOf : GoodIn wsX11_fault (wsV RX11 122 RX11 yX11_shelfOf wsX11_shelfOf) := goodIn_app (goodIn_of _ (by decide +kernel)) ggX11_fault_X11_shelfOf
set_option maxRecDepth 20000 in
theorem ggX11_fault_X5_faultBy : GoodIn wsX11_fault wsX5_faultBy := ggi (fun w h => List.mem_cons_of_mem _ (List.mem_append_left _ (List.mem_append_left _ (List.mem_append_left _ (List.mem_append_left _ (List.mem_append_right _ (List.mem_append_right _ h))))))) gs_X5_faultBy
set_option maxRecDepth 20000 in
theorem gX11_fault_X5_faultBy : GoodIn wsX11_fault (wsV RX11 130 RX5 yX5_faultBy wsX5_faultBy) := goodIn_app (goodIn_of _ (by decide +kernel)) ggX11_fault_X5_faultBy
/-- HissHorn.fault(I)I of cell 0 -/
def rmX11_fault_0 : Room := { frames := 71, cells := 0, slots := 0, locals := 4257 }
theorem hX11_fault_0_X11 : ∀ w ∈ u_ws RX11 TX11 13, w ∈ wsX11_fault := fun w h => (List.mem_cons_of_mem _ (List.mem_append_left _ (List.mem_append_left _ (List.mem_append_left _ (List.mem_append_right _ h)))))
theorem mX11_fault_0_1 : Cond.fieldLink RX11 21 "HissHorn" "parser" "LHissHorn$Parser;" ∈ wsX11_fault := (List.mem_cons_of_mem _ (List.mem_append_left _ (List.mem_append_left _ (List.mem_append_left _ (List.mem_append_left _ (List.mem_append_left _ (List.mem_of_getElem? (i := 8) rfl)))))))
theorem hX11_fault_0_X8 : ∀ w ∈ u_ws RX8 TX8 5, w ∈ wsX11_fault := fun w h => (List.mem_cons_of_mem _ (List.mem_append_left _ (List.mem_append_left _ (List.mem_append_right _ h))))
theorem mX11_fault_0_3 : Cond.fieldLink RX11 126 "HissHorn$Shelf" "letters" "Ljava/lang/String;" ∈ wsX11_fault := (List.mem_cons_of_mem _ (List.mem_append_left _ (List.mem_append_left _ (List.mem_append_left _ (List.mem_append_left _ (List.mem_append_left _ (List.mem_of_getElem? (i := 9) rfl)))))))
def fX11_fault_0 (x1 : Int32) (u : SX) : Option (Int32 × SX) := ((fX11_shelfOf_0 x1 u).bind fun q => match q with | (r1, u2) => (if r1 = 0 then (some ((-2), u2)) else (if r1 = 4 then ((fX5_faultBy_2_as0  u2).bind fun q => match q with | (r4, u5) => (some (r4, u5))) else (if r1 = 5 then ((fX5_faultBy_2_as1  u2).bind fun q => match q with | (r7, u8) => (some (r7, u8))) else (if r1 = 6 then ((fX5_faultBy_2_as2  u2).bind fun q => match q with | (r10, u11) => (some (r10, u11))) else none)))))
set_option maxHeartbeats 4000000 in
set_option maxRecDepth 100000 in
theorem wX11_fault_0 {p : Program} {l : Launch} {e : Env} {s : State} {m : MethodId} {args : Array Value} {below : List Frame} {meth : Method} {c : Code} {D : va_G} {cy : Nat → ClassId} {ad st : Nat → Nat} (C : Cx RX11 cX11_fault 3 (some .int) wsX11_fault p s m args meth c) (hK : Ky D [(cy 0, .int), (cy 1, .long), (cy 2, .boolean), (cy 3, .byte), (cy 4, .object "HissHorn$Text")] st s) (hJ : JX ad st) (x1 : Int32) {u : SX} {r : Int32} {u' : SX} {H : Heap} {locs : List Loc} {ls : Array Slot} (h : fX11_fault_0 x1 u = some (r, u')) (hP : va_P D vwCl (VX cy ad st u) H) (hS : va_S (Ax (AX ad) s.heap.size) s.heap H locs) (hl : lv_has ls 3 [(0, .ref (ad 0)), (1, .int x1)]) : W p l e rmX11_fault_0 s m args below meth c H locs 0 0 (MQ below (Qi D (VX cy ad st) (AX ad) s.heap.size r u') args s 0 0 (Ax (AX ad) s.heap.size)) (F0 m 0 ls []) := by
  unfold fX11_fault_0 at h
  refine lv_aload_n C.1 C.2.1 dX11_fault_0 rfl (lv_at hl 0 rfl) ?_
  refine lv_iload_n C.1 C.2.1 dX11_fault_1 rfl (lv_at hl 1 rfl) ?_
  obtain ⟨⟨r1, u2⟩, hc3, h⟩ := bd_some h
  try dsimp only at h
  refine cg_q (As := [.int x1]) (rest := []) (AX_ge hJ) C hK hP hS (metX11_shelfOf_0 l D cy ad st hJ _ x1 hc3) (cwV 1 C.2.2.2.2.2.1 gX11_fault_X11_shelfOf rfl rfl rfl (by decide +kernel) ⟨(Nat.le_of_ble_eq_true rfl), (Nat.le_of_ble_eq_true rfl)⟩) 0 11 rfl rfl rfl hl.1 rfl (Nat.le_of_ble_eq_true rfl) dX11_fault_2 ⟨Nat.zero_le _, Nat.zero_le _⟩ (fun H locs hP hS => ?_)
  by_cases c2_0 : r1 = 0
  · rw [if_pos c2_0] at h
    subst c2_0
    refine W.eq (g2 := F0 m 5 ls [.null]) rfl ?_
    refine lv_astore_nN (lv' := [(2, .null), (0, .ref (ad 0)), (1, .int x1)]) C.1 C.2.1 dX11_fault_5 rfl hl (by decide) rfl (fun ls hl => ?_)
    replace hl := lv_sub (l' := [(0, .ref (ad 0)), (1, .int x1), (2, .null)]) hl [1, 2, 0] rfl
    refine lv_aload_nN C.1 C.2.1 dX11_fault_6 rfl (lv_at hl 2 rfl) ?_
    refine lv_ifnonnullN C.1 C.2.1 dX11_fault_7 ?_
    refine lv_bipush (v := (-2)) C.1 C.2.1 dX11_fault_10 (by decide) ?_
    refine lv_goto (tgt := 26) C.1 C.2.1 dX11_fault_12 (by decide) ?_
    cases h
    exact rt_i C hP hS dX11_fault_26
  · rw [if_neg c2_0] at h
    by_cases c2_4 : r1 = 4
    · rw [if_pos c2_4] at h
      subst c2_4
      refine W.eq (g2 := F0 m 5 ls [.ref (ad 3)]) rfl ?_
      refine lv_astore_n (lv' := [(2, .ref (ad 3)), (0, .ref (ad 0)), (1, .int x1)]) C.1 C.2.1 dX11_fault_5 rfl hl (by decide) rfl (fun ls hl => ?_)
      replace hl := lv_sub (l' := [(0, .ref (ad 0)), (1, .int x1), (2, .ref (ad 3))]) hl [1, 2, 0] rfl
      refine lv_aload_n C.1 C.2.1 dX11_fault_6 rfl (lv_at hl 2 rfl) ?_
      refine lv_ifnonnull (tgt := 15) C.1 C.2.1 dX11_fault_7 (by decide) ?_
      refine lv_aload_n C.1 C.2.1 dX11_fault_15 rfl (lv_at hl 0 rfl) ?_
      refine gX_0_parser C hX11_fault_0_X11 hK hP mX11_fault_0_1 dX11_fault_16 ?_
      refine lv_aload_n C.1 C.2.1 dX11_fault_19 rfl (lv_at hl 2 rfl) ?_
      refine gX_3_letters C hX11_fault_0_X8 hK hP mX11_fault_0_3 dX11_fault_20 ?_
      obtain ⟨⟨r4, u5⟩, hc6, h⟩ := bd_some h
      try dsimp only at h
      refine cg_i (As := [.ref (st 0)]) (rest := []) (AX_ge hJ) C hK hP hS (metX5_faultBy_2_as0 l D cy ad st hJ _  hc6) (cwV 1 C.2.2.2.2.2.1 gX11_fault_X5_faultBy rfl rfl rfl (by decide +kernel) ⟨(Nat.le_of_ble_eq_true rfl), (Nat.le_of_ble_eq_true rfl)⟩) 2 5 rfl rfl rfl hl.1 rfl (Nat.le_of_ble_eq_true rfl) dX11_fault_23 ⟨Nat.zero_le _, Nat.zero_le _⟩ (fun H locs hP hS => ?_)
      cases h
      exact rt_i C hP hS dX11_fault_26
    · rw [if_neg c2_4] at h
      by_cases c2_5 : r1 = 5
      · rw [if_pos c2_5] at h
        subst c2_5
        refine W.eq (g2 := F0 m 5 ls [.ref (ad 4)]) rfl ?_
        refine lv_astore_n (lv' := [(2, .ref (ad 4)), (0, .ref (ad 0)), (1, .int x1)]) C.1 C.2.1 dX11_fault_5 rfl hl (by decide) rfl (fun ls hl => ?_)
        replace hl := lv_sub (l' := [(0, .ref (ad 0)), (1, .int x1), (2, .ref (ad 4))]) hl [1, 2, 0] rfl
        refine lv_aload_n C.1 C.2.1 dX11_fault_6 rfl (lv_at hl 2 rfl) ?_
        refine lv_ifnonnull (tgt := 15) C.1 C.2.1 dX11_fault_7 (by decide) ?_
        refine lv_aload_n C.1 C.2.1 dX11_fault_15 rfl (lv_at hl 0 rfl) ?_
        refine gX_0_parser C hX11_fault_0_X11 hK hP mX11_fault_0_1 dX11_fault_16 ?_
        refine lv_aload_n C.1 C.2.1 dX11_fault_19 rfl (lv_at hl 2 rfl) ?_
        refine gX_4_letters C hX11_fault_0_X8 hK hP mX11_fault_0_3 dX11_fault_20 ?_
        obtain ⟨⟨r7, u8⟩, hc9, h⟩ := bd_some h
        try dsimp only at h
        refine cg_i (As := [.ref (st 1)]) (rest := []) (AX_ge hJ) C hK hP hS (metX5_faultBy_2_as1 l D cy ad st hJ _  hc9) (cwV 1 C.2.2.2.2.2.1 gX11_fault_X5_faultBy rfl rfl rfl (by decide +kernel) ⟨(Nat.le_of_ble_eq_true rfl), (Nat.le_of_ble_eq_true rfl)⟩) 2 5 rfl rfl rfl hl.1 rfl (Nat.le_of_ble_eq_true rfl) dX11_fault_23 ⟨Nat.zero_le _, Nat.zero_le _⟩ (fun H locs hP hS => ?_)
        cases h
        exact rt_i C hP hS dX11_fault_26
      · rw [if_neg c2_5] at h
        by_cases c2_6 : r1 = 6
        · rw [if_pos c2_6] at h
          subst c2_6
          refine W.eq (g2 := F0 m 5 ls [.ref (ad 5)]) rfl ?_
          refine lv_astore_n (lv' := [(2, .ref (ad 5)), (0, .ref (ad 0)), (1, .int x1)]) C.1 C.2.1 dX11_fault_5 rfl hl (by decide) rfl (fun ls hl => ?_)
          replace hl := lv_sub (l' := [(0, .ref (ad 0)), (1, .int x1), (2, .ref (ad 5))]) hl [1, 2, 0] rfl
          refine lv_aload_n C.1 C.2.1 dX11_fault_6 rfl (lv_at hl 2 rfl) ?_
          refine lv_ifnonnull (tgt := 15) C.1 C.2.1 dX11_fault_7 (by decide) ?_
          refine lv_aload_n C.1 C.2.1 dX11_fault_15 rfl (lv_at hl 0 rfl) ?_
          refine gX_0_parser C hX11_fault_0_X11 hK hP mX11_fault_0_1 dX11_fault_16 ?_
          refine lv_aload_n C.1 C.2.1 dX11_fault_19 rfl (lv_at hl 2 rfl) ?_
          refine gX_5_letters C hX11_fault_0_X8 hK hP mX11_fault_0_3 dX11_fault_20 ?_
          obtain ⟨⟨r10, u11⟩, hc12, h⟩ := bd_some h
          try dsimp only at h
          refine cg_i (As := [.ref (st 2)]) (rest := []) (AX_ge hJ) C hK hP hS (metX5_faultBy_2_as2 l D cy ad st hJ _  hc12) (cwV 1 C.2.2.2.2.2.1 gX11_fault_X5_faultBy rfl rfl rfl (by decide +kernel) ⟨(Nat.le_of_ble_eq_true rfl), (Nat.le_of_ble_eq_true rfl)⟩) 2 5 rfl rfl rfl hl.1 rfl (Nat.le_of_ble_eq_true rfl) dX11_fault_23 ⟨Nat.zero_le _, Nat.zero_le _⟩ (fun H locs hP hS => ?_)
          cases h
          exact rt_i C hP hS dX11_fault_26
        · rw [if_neg c2_6] at h
          exact absurd h (by intro q; cases q)
theorem metX11_fault_0 (l : Launch) (D : va_G) (cy : Nat → ClassId) (ad st : Nat → Nat) (hJ : JX ad st) (sz : Nat) (x1 : Int32) {u : SX} {r : Int32} {u' : SX} (h : fX11_fault_0 x1 u = some (r, u')) : Met l yX11_fault wsX11_fault rmX11_fault_0 (va_Pc [.ref (ad 0), .int x1] (Px D [(cy 0, .int), (cy 1, .long), (cy 2, .boolean), (cy 3, .byte), (cy 4, .object "HissHorn$Text")] st (VX cy ad st) sz u)) (Qi D (VX cy ad st) (AX ad) sz r u') 0 0 (Ax (AX ad) sz) := by
  refine Met.ofW (cc := cX11_fault) (maxL := 3) (ret := (some .int)) (by decide) rfl ?_
  intro p e s m args below meth c s₁ B hml hv
  obtain ⟨rfl, hsz, hP, hK⟩ := hv
  subst hsz
  have C : Cx RX11 cX11_fault 3 (some .int) wsX11_fault p s m _ meth c := ⟨B.exec, B.bytes, hml, B.returns, findClass_of_methodNamed B.named, atoms_spec (ws := wsX11_fault) B.pre, B.notSynchronized⟩
  have hl := lv_entry ([.ref (ad 0), .int x1]) (n := 3) (Nat.le_of_ble_eq_true rfl)
  rw [lg_entry_eq]
  exact wX11_fault_0 C hK hJ x1 h hP va_S.rf hl

theorem zdX8_isFull_0 : (and (and (and (and (zk cX8_isFull 0 (.aload_n 0) 1) (zk cX8_isFull 1 (.getfield 36) 3)) (zk cX8_isFull 4 (.aload_n 0) 1)) (and (zk cX8_isFull 5 (.getfield 23) 3) (zk cX8_isFull 8 (.arraylength) 1))) (and (and (and (zk cX8_isFull 9 (.if_icmp .lt 7) 3) (zk cX8_isFull 16 (.iconst 0) 1)) (zk cX8_isFull 17 (.ireturn) 1)) (and (zk cX8_isFull 12 (.iconst 1) 1) (zk cX8_isFull 13 (.goto 4) 3)))) = true := by decide +kernel
theorem dX8_isFull_0 : decode cX8_isFull 0 = .ok (.aload_n 0, 1) := zk_of (zk_l (zk_l (zk_l (zk_l zdX8_isFull_0))))
theorem dX8_isFull_1 : decode cX8_isFull 1 = .ok (.getfield 36, 3) := zk_of (zk_r (zk_l (zk_l (zk_l zdX8_isFull_0))))
theorem dX8_isFull_4 : decode cX8_isFull 4 = .ok (.aload_n 0, 1) := zk_of (zk_r (zk_l (zk_l zdX8_isFull_0)))
theorem dX8_isFull_5 : decode cX8_isFull 5 = .ok (.getfield 23, 3) := zk_of (zk_l (zk_r (zk_l zdX8_isFull_0)))
theorem dX8_isFull_8 : decode cX8_isFull 8 = .ok (.arraylength, 1) := zk_of (zk_r (zk_r (zk_l zdX8_isFull_0)))
theorem dX8_isFull_9 : decode cX8_isFull 9 = .ok (.if_icmp .lt 7, 3) := zk_of (zk_l (zk_l (zk_l (zk_r zdX8_isFull_0))))
theorem dX8_isFull_16 : decode cX8_isFull 16 = .ok (.iconst 0, 1) := zk_of (zk_r (zk_l (zk_l (zk_r zdX8_isFull_0))))
theorem dX8_isFull_17 : decode cX8_isFull 17 = .ok (.ireturn, 1) := zk_of (zk_r (zk_l (zk_r zdX8_isFull_0)))
theorem dX8_isFull_12 : decode cX8_isFull 12 = .ok (.iconst 1, 1) := zk_of (zk_l (zk_r (zk_r zdX8_isFull_0)))
theorem dX8_isFull_13 : decode cX8_isFull 13 = .ok (.goto 4, 3) := zk_of (zk_r (zk_r (zk_r zdX8_isFull_0)))
/-- HissHorn$Shelf.isFull()Z of cell 3 -/
def rmX8_isFull_3 : Room := { frames := 0, cells := 0, slots := 0, locals := 0 }
theorem hX8_isFull_3_X8 : ∀ w ∈ u_ws RX8 TX8 5, w ∈ wsX8_isFull := fun w h => (List.mem_cons_of_mem _ (List.mem_append_right _ h))
theorem mX8_isFull_3_1 : Cond.fieldLink RX8 36 "HissHorn$Shelf" "size" "I" ∈ wsX8_isFull := (List.mem_cons_of_mem _ (List.mem_append_left _ (List.mem_of_getElem? (i := 0) rfl)))
theorem mX8_isFull_3_2 : Cond.fieldLink RX8 23 "HissHorn$Shelf" "texts" "[LHissHorn$Text;" ∈ wsX8_isFull := (List.mem_cons_of_mem _ (List.mem_append_left _ (List.mem_of_getElem? (i := 1) rfl)))
def fX8_isFull_3  (u : SX) : Option (Int32 × SX) := (if (u.1 5) < 12 then (gd (isB 0) (some (0, u))) else (gd (isB 1) (some (1, u))))
set_option maxHeartbeats 4000000 in
set_option maxRecDepth 100000 in
theorem wX8_isFull_3 {p : Program} {l : Launch} {e : Env} {s : State} {m : MethodId} {args : Array Value} {below : List Frame} {meth : Method} {c : Code} {D : va_G} {cy : Nat → ClassId} {ad st : Nat → Nat} (C : Cx RX8 cX8_isFull 1 (some .boolean) wsX8_isFull p s m args meth c) (hK : Ky D [(cy 0, .int), (cy 1, .long), (cy 2, .boolean), (cy 3, .byte), (cy 4, .object "HissHorn$Text")] st s) (hJ : JX ad st)  {u : SX} {r : Int32} {u' : SX} {H : Heap} {locs : List Loc} {ls : Array Slot} (h : fX8_isFull_3  u = some (r, u')) (hP : va_P D vwCl (VX cy ad st u) H) (hS : va_S (Ax (AX ad) s.heap.size) s.heap H locs) (hl : lv_has ls 1 [(0, .ref (ad 3))]) : W p l e rmX8_isFull_3 s m args below meth c H locs 0 0 (MQ below (Qi D (VX cy ad st) (AX ad) s.heap.size r u') args s 0 0 (Ax (AX ad) s.heap.size)) (F0 m 0 ls []) := by
  unfold fX8_isFull_3 at h
  refine lv_aload_n C.1 C.2.1 dX8_isFull_0 rfl (lv_at hl 0 rfl) ?_
  refine gX_3_size C hX8_isFull_3_X8 hK hP mX8_isFull_3_1 dX8_isFull_1 ?_
  refine lv_aload_n C.1 C.2.1 dX8_isFull_4 rfl (lv_at hl 0 rfl) ?_
  refine gX_3_texts C hX8_isFull_3_X8 hK hP mX8_isFull_3_2 dX8_isFull_5 ?_
  refine va_alen (v := 12) C.1 C.2.1 hK.1 hP 15 4 rfl rfl rfl dX8_isFull_8 ?_
  refine lv_icmp_lt (tgt := 16) C.1 C.2.1 dX8_isFull_9 (by decide) (fun c9 => ?_) (fun c9 => ?_)
  · rw [if_pos c9] at h
    refine lv_iconst (v := 0) C.1 C.2.1 dX8_isFull_16 (by decide) ?_
    obtain ⟨hg1, h⟩ := gd_some h
    cases h
    exact rt_z hg1 C hP hS dX8_isFull_17
  · rw [if_neg c9] at h
    refine lv_iconst (v := 1) C.1 C.2.1 dX8_isFull_12 (by decide) ?_
    refine lv_goto (tgt := 17) C.1 C.2.1 dX8_isFull_13 (by decide) ?_
    obtain ⟨hg2, h⟩ := gd_some h
    cases h
    exact rt_z hg2 C hP hS dX8_isFull_17
theorem metX8_isFull_3 (l : Launch) (D : va_G) (cy : Nat → ClassId) (ad st : Nat → Nat) (hJ : JX ad st) (sz : Nat)  {u : SX} {r : Int32} {u' : SX} (h : fX8_isFull_3  u = some (r, u')) : Met l yX8_isFull wsX8_isFull rmX8_isFull_3 (va_Pc [.ref (ad 3)] (Px D [(cy 0, .int), (cy 1, .long), (cy 2, .boolean), (cy 3, .byte), (cy 4, .object "HissHorn$Text")] st (VX cy ad st) sz u)) (Qi D (VX cy ad st) (AX ad) sz r u') 0 0 (Ax (AX ad) sz) := by
  refine Met.ofW (cc := cX8_isFull) (maxL := 1) (ret := (some .boolean)) (by decide) rfl ?_
  intro p e s m args below meth c s₁ B hml hv
  obtain ⟨rfl, hsz, hP, hK⟩ := hv
  subst hsz
  have C : Cx RX8 cX8_isFull 1 (some .boolean) wsX8_isFull p s m _ meth c := ⟨B.exec, B.bytes, hml, B.returns, findClass_of_methodNamed B.named, atoms_spec (ws := wsX8_isFull) B.pre, B.notSynchronized⟩
  have hl := lv_entry ([.ref (ad 3)]) (n := 1) (Nat.le_of_ble_eq_true rfl)
  rw [lg_entry_eq]
  exact wX8_isFull_3 C hK hJ h hP va_S.rf hl

/-- HissHorn$Parser.compiled()LHissHorn$Text; of cell 2 -/
def rmX5_compiled_2 : Room := { frames := 0, cells := 0, slots := 0, locals := 0 }
def fX5_compiled_2  (u : SX) : Option (Nat × SX) := none
set_option maxHeartbeats 4000000 in
set_option maxRecDepth 100000 in
theorem wX5_compiled_2 {p : Program} {l : Launch} {e : Env} {s : State} {m : MethodId} {args : Array Value} {below : List Frame} {meth : Method} {c : Code} {D : va_G} {cy : Nat → ClassId} {ad st : Nat → Nat} (C : Cx RX5 cX5_compiled 1 (some (.object "HissHorn$Text")) wsX5_compiled p s m args meth c) (hK : Ky D [(cy 0, .int), (cy 1, .long), (cy 2, .boolean), (cy 3, .byte), (cy 4, .object "HissHorn$Text")] st s) (hJ : JX ad st)  {u : SX} {r : Nat} {u' : SX} {H : Heap} {locs : List Loc} {ls : Array Slot} (h : fX5_compiled_2  u = some (r, u')) (hP : va_P D vwCl (VX cy ad st u) H) (hS : va_S (Ax (AX ad) s.heap.size) s.heap H locs) (hl : lv_has ls 1 [(0, .ref (ad 2))]) : W p l e rmX5_compiled_2 s m args below meth c H locs 0 0 (MQ below (Qq ad D (VX cy ad st) (AX ad) s.heap.size r u') args s 0 0 (Ax (AX ad) s.heap.size)) (F0 m 0 ls []) := by
  unfold fX5_compiled_2 at h
  exact absurd h (by intro q; cases q)
theorem metX5_compiled_2 (l : Launch) (D : va_G) (cy : Nat → ClassId) (ad st : Nat → Nat) (hJ : JX ad st) (sz : Nat)  {u : SX} {r : Nat} {u' : SX} (h : fX5_compiled_2  u = some (r, u')) : Met l yX5_compiled wsX5_compiled rmX5_compiled_2 (va_Pc [.ref (ad 2)] (Px D [(cy 0, .int), (cy 1, .long), (cy 2, .boolean), (cy 3, .byte), (cy 4, .object "HissHorn$Text")] st (VX cy ad st) sz u)) (Qq ad D (VX cy ad st) (AX ad) sz r u') 0 0 (Ax (AX ad) sz) := by
  refine Met.ofW (cc := cX5_compiled) (maxL := 1) (ret := (some (.object "HissHorn$Text"))) (by decide) rfl ?_
  intro p e s m args below meth c s₁ B hml hv
  obtain ⟨rfl, hsz, hP, hK⟩ := hv
  subst hsz
  have C : Cx RX5 cX5_compiled 1 (some (.object "HissHorn$Text")) wsX5_compiled p s m _ meth c := ⟨B.exec, B.bytes, hml, B.returns, findClass_of_methodNamed B.named, atoms_spec (ws := wsX5_compiled) B.pre, B.notSynchronized⟩
  have hl := lv_entry ([.ref (ad 2)]) (n := 1) (Nat.le_of_ble_eq_true rfl)
  rw [lg_entry_eq]
  exact wX5_compiled_2 C hK hJ h hP va_S.rf hl

/-- HissHorn$Shelf.isFull()Z of cell 4 -/
def rmX8_isFull_4 : Room := { frames := 0, cells := 0, slots := 0, locals := 0 }
theorem hX8_isFull_4_X8 : ∀ w ∈ u_ws RX8 TX8 5, w ∈ wsX8_isFull := fun w h => (List.mem_cons_of_mem _ (List.mem_append_right _ h))
theorem mX8_isFull_4_1 : Cond.fieldLink RX8 36 "HissHorn$Shelf" "size" "I" ∈ wsX8_isFull := (List.mem_cons_of_mem _ (List.mem_append_left _ (List.mem_of_getElem? (i := 0) rfl)))
theorem mX8_isFull_4_2 : Cond.fieldLink RX8 23 "HissHorn$Shelf" "texts" "[LHissHorn$Text;" ∈ wsX8_isFull := (List.mem_cons_of_mem _ (List.mem_append_left _ (List.mem_of_getElem? (i := 1) rfl)))
def fX8_isFull_4  (u : SX) : Option (Int32 × SX) := (if (u.1 6) < 6 then (gd (isB 0) (some (0, u))) else (gd (isB 1) (some (1, u))))
set_option maxHeartbeats 4000000 in
set_option maxRecDepth 100000 in
theorem wX8_isFull_4 {p : Program} {l : Launch} {e : Env} {s : State} {m : MethodId} {args : Array Value} {below : List Frame} {meth : Method} {c : Code} {D : va_G} {cy : Nat → ClassId} {ad st : Nat → Nat} (C : Cx RX8 cX8_isFull 1 (some .boolean) wsX8_isFull p s m args meth c) (hK : Ky D [(cy 0, .int), (cy 1, .long), (cy 2, .boolean), (cy 3, .byte), (cy 4, .object "HissHorn$Text")] st s) (hJ : JX ad st)  {u : SX} {r : Int32} {u' : SX} {H : Heap} {locs : List Loc} {ls : Array Slot} (h : fX8_isFull_4  u = some (r, u')) (hP : va_P D vwCl (VX cy ad st u) H) (hS : va_S (Ax (AX ad) s.heap.size) s.heap H locs) (hl : lv_has ls 1 [(0, .ref (ad 4))]) : W p l e rmX8_isFull_4 s m args below meth c H locs 0 0 (MQ below (Qi D (VX cy ad st) (AX ad) s.heap.size r u') args s 0 0 (Ax (AX ad) s.heap.size)) (F0 m 0 ls []) := by
  unfold fX8_isFull_4 at h
  refine lv_aload_n C.1 C.2.1 dX8_isFull_0 rfl (lv_at hl 0 rfl) ?_
  refine gX_4_size C hX8_isFull_4_X8 hK hP mX8_isFull_4_1 dX8_isFull_1 ?_
  refine lv_aload_n C.1 C.2.1 dX8_isFull_4 rfl (lv_at hl 0 rfl) ?_
  refine gX_4_texts C hX8_isFull_4_X8 hK hP mX8_isFull_4_2 dX8_isFull_5 ?_
  refine va_alen (v := 6) C.1 C.2.1 hK.1 hP 18 4 rfl rfl rfl dX8_isFull_8 ?_
  refine lv_icmp_lt (tgt := 16) C.1 C.2.1 dX8_isFull_9 (by decide) (fun c9 => ?_) (fun c9 => ?_)
  · rw [if_pos c9] at h
    refine lv_iconst (v := 0) C.1 C.2.1 dX8_isFull_16 (by decide) ?_
    obtain ⟨hg1, h⟩ := gd_some h
    cases h
    exact rt_z hg1 C hP hS dX8_isFull_17
  · rw [if_neg c9] at h
    refine lv_iconst (v := 1) C.1 C.2.1 dX8_isFull_12 (by decide) ?_
    refine lv_goto (tgt := 17) C.1 C.2.1 dX8_isFull_13 (by decide) ?_
    obtain ⟨hg2, h⟩ := gd_some h
    cases h
    exact rt_z hg2 C hP hS dX8_isFull_17
theorem metX8_isFull_4 (l : Launch) (D : va_G) (cy : Nat → ClassId) (ad st : Nat → Nat) (hJ : JX ad st) (sz : Nat)  {u : SX} {r : Int32} {u' : SX} (h : fX8_isFull_4  u = some (r, u')) : Met l yX8_isFull wsX8_isFull rmX8_isFull_4 (va_Pc [.ref (ad 4)] (Px D [(cy 0, .int), (cy 1, .long), (cy 2, .boolean), (cy 3, .byte), (cy 4, .object "HissHorn$Text")] st (VX cy ad st) sz u)) (Qi D (VX cy ad st) (AX ad) sz r u') 0 0 (Ax (AX ad) sz) := by
  refine Met.ofW (cc := cX8_isFull) (maxL := 1) (ret := (some .boolean)) (by decide) rfl ?_
  intro p e s m args below meth c s₁ B hml hv
  obtain ⟨rfl, hsz, hP, hK⟩ := hv
  subst hsz
  have C : Cx RX8 cX8_isFull 1 (some .boolean) wsX8_isFull p s m _ meth c := ⟨B.exec, B.bytes, hml, B.returns, findClass_of_methodNamed B.named, atoms_spec (ws := wsX8_isFull) B.pre, B.notSynchronized⟩
  have hl := lv_entry ([.ref (ad 4)]) (n := 1) (Nat.le_of_ble_eq_true rfl)
  rw [lg_entry_eq]
  exact wX8_isFull_4 C hK hJ h hP va_S.rf hl

/-- HissHorn$Shelf.isFull()Z of cell 5 -/
def rmX8_isFull_5 : Room := { frames := 0, cells := 0, slots := 0, locals := 0 }
theorem hX8_isFull_5_X8 : ∀ w ∈ u_ws RX8 TX8 5, w ∈ wsX8_isFull := fun w h => (List.mem_cons_of_mem _ (List.mem_append_right _ h))
theorem mX8_isFull_5_1 : Cond.fieldLink RX8 36 "HissHorn$Shelf" "size" "I" ∈ wsX8_isFull := (List.mem_cons_of_mem _ (List.mem_append_left _ (List.mem_of_getElem? (i := 0) rfl)))
theorem mX8_isFull_5_2 : Cond.fieldLink RX8 23 "HissHorn$Shelf" "texts" "[LHissHorn$Text;" ∈ wsX8_isFull := (List.mem_cons_of_mem _ (List.mem_append_left _ (List.mem_of_getElem? (i := 1) rfl)))
def fX8_isFull_5  (u : SX) : Option (Int32 × SX) := (if (u.1 7) < 6 then (gd (isB 0) (some (0, u))) else (gd (isB 1) (some (1, u))))
set_option maxHeartbeats 4000000 in
set_option maxRecDepth 100000 in
theorem wX8_isFull_5 {p : Program} {l : Launch} {e : Env} {s : State} {m : MethodId} {args : Array Value} {below : List Frame} {meth : Method} {c : Code} {D : va_G} {cy : Nat → ClassId} {ad st : Nat → Nat} (C : Cx RX8 cX8_isFull 1 (some .boolean) wsX8_isFull p s m args meth c) (hK : Ky D [(cy 0, .int), (cy 1, .long), (cy 2, .boolean), (cy 3, .byte), (cy 4, .object "HissHorn$Text")] st s) (hJ : JX ad st)  {u : SX} {r : Int32} {u' : SX} {H : Heap} {locs : List Loc} {ls : Array Slot} (h : fX8_isFull_5  u = some (r, u')) (hP : va_P D vwCl (VX cy ad st u) H) (hS : va_S (Ax (AX ad) s.heap.size) s.heap H locs) (hl : lv_has ls 1 [(0, .ref (ad 5))]) : W p l e rmX8_isFull_5 s m args below meth c H locs 0 0 (MQ below (Qi D (VX cy ad st) (AX ad) s.heap.size r u') args s 0 0 (Ax (AX ad) s.heap.size)) (F0 m 0 ls []) := by
  unfold fX8_isFull_5 at h
  refine lv_aload_n C.1 C.2.1 dX8_isFull_0 rfl (lv_at hl 0 rfl) ?_
  refine gX_5_size C hX8_isFull_5_X8 hK hP mX8_isFull_5_1 dX8_isFull_1 ?_
  refine lv_aload_n C.1 C.2.1 dX8_isFull_4 rfl (lv_at hl 0 rfl) ?_
  refine gX_5_texts C hX8_isFull_5_X8 hK hP mX8_isFull_5_2 dX8_isFull_5 ?_
  refine va_alen (v := 6) C.1 C.2.1 hK.1 hP 21 4 rfl rfl rfl dX8_isFull_8 ?_
  refine lv_icmp_lt (tgt := 16) C.1 C.2.1 dX8_isFull_9 (by decide) (fun c9 => ?_) (fun c9 => ?_)
  · rw [if_pos c9] at h
    refine lv_iconst (v := 0) C.1 C.2.1 dX8_isFull_16 (by decide) ?_
    obtain ⟨hg1, h⟩ := gd_some h
    cases h
    exact rt_z hg1 C hP hS dX8_isFull_17
  · rw [if_neg c9] at h
    refine lv_iconst (v := 1) C.1 C.2.1 dX8_isFull_12 (by decide) ?_
    refine lv_goto (tgt := 17) C.1 C.2.1 dX8_isFull_13 (by decide) ?_
    obtain ⟨hg2, h⟩ := gd_some h
    cases h
    exact rt_z hg2 C hP hS dX8_isFull_17
theorem metX8_isFull_5 (l : Launch) (D : va_G) (cy : Nat → ClassId) (ad st : Nat → Nat) (hJ : JX ad st) (sz : Nat)  {u : SX} {r : Int32} {u' : SX} (h : fX8_isFull_5  u = some (r, u')) : Met l yX8_isFull wsX8_isFull rmX8_isFull_5 (va_Pc [.ref (ad 5)] (Px D [(cy 0, .int), (cy 1, .long), (cy 2, .boolean), (cy 3, .byte), (cy 4, .object "HissHorn$Text")] st (VX cy ad st) sz u)) (Qi D (VX cy ad st) (AX ad) sz r u') 0 0 (Ax (AX ad) sz) := by
  refine Met.ofW (cc := cX8_isFull) (maxL := 1) (ret := (some .boolean)) (by decide) rfl ?_
  intro p e s m args below meth c s₁ B hml hv
  obtain ⟨rfl, hsz, hP, hK⟩ := hv
  subst hsz
  have C : Cx RX8 cX8_isFull 1 (some .boolean) wsX8_isFull p s m _ meth c := ⟨B.exec, B.bytes, hml, B.returns, findClass_of_methodNamed B.named, atoms_spec (ws := wsX8_isFull) B.pre, B.notSynchronized⟩
  have hl := lv_entry ([.ref (ad 5)]) (n := 1) (Nat.le_of_ble_eq_true rfl)
  rw [lg_entry_eq]
  exact wX8_isFull_5 C hK hJ h hP va_S.rf hl
