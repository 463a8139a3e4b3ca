theorem zdX2_having_61 : (and (and (and (and (and (zk cX2_having 61 (.iinc 4 1) 3) (zk cX2_having 64 (.goto (-59)) 3)) (and (zk cX2_having 29 (.istore 5) 2) (zk cX2_having 31 (.aload_n 0) 1))) (and (and (zk cX2_having 32 (.getfield 31) 3) (zk cX2_having 35 (.iload 4) 2)) (and (zk cX2_having 37 (.iaload) 1) (zk cX2_having 38 (.iload_n 1) 1)))) (and (and (and (zk cX2_having 39 (.if_icmp .gt 22) 3) (zk cX2_having 42 (.aload_n 0) 1)) (and (zk cX2_having 43 (.getfield 28) 3) (zk cX2_having 46 (.iload 4) 2))) (and (and (zk cX2_having 48 (.iaload) 1) (zk cX2_having 49 (.ifCond .le 12) 3)) (and (zk cX2_having 52 (.iload 5) 2) (zk cX2_having 54 (.iload_n 2) 1))))) (and (and (and (and (zk cX2_having 55 (.if_icmp .ne 6) 3) (zk cX2_having 58 (.iinc 3 1) 3)) (and (zk cX2_having 5 (.iload 4) 2) (zk cX2_having 7 (.aload_n 0) 1))) (and (and (zk cX2_having 8 (.getfield 54) 3) (zk cX2_having 11 (.if_icmp .ge 56) 3)) (and (zk cX2_having 67 (.iload_n 3) 1) (zk cX2_having 68 (.ireturn) 1)))) (and (and (and (zk cX2_having 14 (.aload_n 0) 1) (zk cX2_having 15 (.getfield 25) 3)) (and (zk cX2_having 18 (.iload 4) 2) (zk cX2_having 20 (.iaload) 1))) (and (and (zk cX2_having 21 (.ifCond .le 7) 3) (zk cX2_having 28 (.iconst 0) 1)) (and (zk cX2_having 24 (.iconst 1) 1) (zk cX2_having 25 (.goto 4) 3)))))) = true := by decide +kernel
theorem dX2_having_61 : decode cX2_having 61 = .ok (.iinc 4 1, 3) := zk_of (zk_l (zk_l (zk_l (zk_l (zk_l zdX2_having_61)))))
theorem dX2_having_64 : decode cX2_having 64 = .ok (.goto (-59), 3) := zk_of (zk_r (zk_l (zk_l (zk_l (zk_l zdX2_having_61)))))
theorem dX2_having_29 : decode cX2_having 29 = .ok (.istore 5, 2) := zk_of (zk_l (zk_r (zk_l (zk_l (zk_l zdX2_having_61)))))
theorem dX2_having_31 : decode cX2_having 31 = .ok (.aload_n 0, 1) := zk_of (zk_r (zk_r (zk_l (zk_l (zk_l zdX2_having_61)))))
theorem dX2_having_32 : decode cX2_having 32 = .ok (.getfield 31, 3) := zk_of (zk_l (zk_l (zk_r (zk_l (zk_l zdX2_having_61)))))
theorem dX2_having_35 : decode cX2_having 35 = .ok (.iload 4, 2) := zk_of (zk_r (zk_l (zk_r (zk_l (zk_l zdX2_having_61)))))
theorem dX2_having_37 : decode cX2_having 37 = .ok (.iaload, 1) := zk_of (zk_l (zk_r (zk_r (zk_l (zk_l zdX2_having_61)))))
theorem dX2_having_38 : decode cX2_having 38 = .ok (.iload_n 1, 1) := zk_of (zk_r (zk_r (zk_r (zk_l (zk_l zdX2_having_61)))))
theorem dX2_having_39 : decode cX2_having 39 = .ok (.if_icmp .gt 22, 3) := zk_of (zk_l (zk_l (zk_l (zk_r (zk_l zdX2_having_61)))))
theorem dX2_having_42 : decode cX2_having 42 = .ok (.aload_n 0, 1) := zk_of (zk_r (zk_l (zk_l (zk_r (zk_l zdX2_having_61)))))
theorem dX2_having_43 : decode cX2_having 43 = .ok (.getfield 28, 3) := zk_of (zk_l (zk_r (zk_l (zk_r (zk_l zdX2_having_61)))))
theorem dX2_having_46 : decode cX2_having 46 = .ok (.iload 4, 2) := zk_of (zk_r (zk_r (zk_l (zk_r (zk_l zdX2_having_61)))))
theorem dX2_having_48 : decode cX2_having 48 = .ok (.iaload, 1) := zk_of (zk_l (zk_l (zk_r (zk_r (zk_l zdX2_having_61)))))
theorem dX2_having_49 : decode cX2_having 49 = .ok (.ifCond .le 12, 3) := zk_of (zk_r (zk_l (zk_r (zk_r (zk_l zdX2_having_61)))))
theorem dX2_having_52 : decode cX2_having 52 = .ok (.iload 5, 2) := zk_of (zk_l (zk_r (zk_r (zk_r (zk_l zdX2_having_61)))))
theorem dX2_having_54 : decode cX2_having 54 = .ok (.iload_n 2, 1) := zk_of (zk_r (zk_r (zk_r (zk_r (zk_l zdX2_having_61)))))
theorem dX2_having_55 : decode cX2_having 55 = .ok (.if_icmp .ne 6, 3) := zk_of (zk_l (zk_l (zk_l (zk_l (zk_r zdX2_having_61)))))
theorem dX2_having_58 : decode cX2_having 58 = .ok (.iinc 3 1, 3) := zk_of (zk_r (zk_l (zk_l (zk_l (zk_r zdX2_having_61)))))
theorem dX2_having_5 : decode cX2_having 5 = .ok (.iload 4, 2) := zk_of (zk_l (zk_r (zk_l (zk_l (zk_r zdX2_having_61)))))
theorem dX2_having_7 : decode cX2_having 7 = .ok (.aload_n 0, 1) := zk_of (zk_r (zk_r (zk_l (zk_l (zk_r zdX2_having_61)))))
theorem dX2_having_8 : decode cX2_having 8 = .ok (.getfield 54, 3) := zk_of (zk_l (zk_l (zk_r (zk_l (zk_r zdX2_having_61)))))
theorem dX2_having_11 : decode cX2_having 11 = .ok (.if_icmp .ge 56, 3) := zk_of (zk_r (zk_l (zk_r (zk_l (zk_r zdX2_having_61)))))
theorem dX2_having_67 : decode cX2_having 67 = .ok (.iload_n 3, 1) := zk_of (zk_l (zk_r (zk_r (zk_l (zk_r zdX2_having_61)))))
theorem dX2_having_68 : decode cX2_having 68 = .ok (.ireturn, 1) := zk_of (zk_r (zk_r (zk_r (zk_l (zk_r zdX2_having_61)))))
theorem dX2_having_14 : decode cX2_having 14 = .ok (.aload_n 0, 1) := zk_of (zk_l (zk_l (zk_l (zk_r (zk_r zdX2_having_61)))))
theorem dX2_having_15 : decode cX2_having 15 = .ok (.getfield 25, 3) := zk_of (zk_r (zk_l (zk_l (zk_r (zk_r zdX2_having_61)))))
theorem dX2_having_18 : decode cX2_having 18 = .ok (.iload 4, 2) := zk_of (zk_l (zk_r (zk_l (zk_r (zk_r zdX2_having_61)))))
theorem dX2_having_20 : decode cX2_having 20 = .ok (.iaload, 1) := zk_of (zk_r (zk_r (zk_l (zk_r (zk_r zdX2_having_61)))))
theorem dX2_having_21 : decode cX2_having 21 = .ok (.ifCond .le 7, 3) := zk_of (zk_l (zk_l (zk_r (zk_r (zk_r zdX2_having_61)))))
theorem dX2_having_28 : decode cX2_having 28 = .ok (.iconst 0, 1) := zk_of (zk_r (zk_l (zk_r (zk_r (zk_r zdX2_having_61)))))
theorem dX2_having_24 : decode cX2_having 24 = .ok (.iconst 1, 1) := zk_of (zk_l (zk_r (zk_r (zk_r (zk_r zdX2_having_61)))))
theorem dX2_having_25 : decode cX2_having 25 = .ok (.goto 4, 3) := zk_of (zk_r (zk_r (zk_r (zk_r (zk_r zdX2_having_61)))))
theorem zdX2_having_0 : (and (and (zk cX2_having 0 (.iconst 0) 1) (zk cX2_having 1 (.istore_n 3) 1)) (and (zk cX2_having 2 (.iconst 0) 1) (zk cX2_having 3 (.istore 4) 2))) = true := by decide +kernel
theorem dX2_having_0 : decode cX2_having 0 = .ok (.iconst 0, 1) := zk_of (zk_l (zk_l zdX2_having_0))
theorem dX2_having_1 : decode cX2_having 1 = .ok (.istore_n 3, 1) := zk_of (zk_r (zk_l zdX2_having_0))
theorem dX2_having_2 : decode cX2_having 2 = .ok (.iconst 0, 1) := zk_of (zk_l (zk_r zdX2_having_0))
theorem dX2_having_3 : decode cX2_having 3 = .ok (.istore 4, 2) := zk_of (zk_r (zk_r zdX2_having_0))
/-- HissHorn$Houses.having(IZ)I of cell 11 -/
def rmX2_having_11 : Room := { frames := 0, cells := 0, slots := 0, locals := 0 }
theorem hX2_having_11_X2 : ∀ w ∈ u_ws RX2 TX2 18, w ∈ wsX2_having := fun w h => (List.mem_cons_of_mem _ (List.mem_append_right _ h))
theorem mX2_having_11_1 : Cond.fieldLink RX2 54 "HissHorn$Houses" "prints" "I" ∈ wsX2_having := (List.mem_cons_of_mem _ (List.mem_append_left _ (List.mem_of_getElem? (i := 0) rfl)))
theorem mX2_having_11_2 : Cond.fieldLink RX2 25 "HissHorn$Houses" "printFrom" "[I" ∈ wsX2_having := (List.mem_cons_of_mem _ (List.mem_append_left _ (List.mem_of_getElem? (i := 1) rfl)))
theorem mX2_having_11_3 : Cond.fieldLink RX2 31 "HissHorn$Houses" "printDay" "[I" ∈ wsX2_having := (List.mem_cons_of_mem _ (List.mem_append_left _ (List.mem_of_getElem? (i := 2) rfl)))
def GX2_having_11_61 (k5 : Int32 → Int32 → Int32 → Int32 → SX → Option (Int32 × SX)) (z1 : Int32) (z2 : Int32) (z3 : Int32) (z4 : Int32) (u : SX) : Option (Int32 × SX) := (k5 z1 z2 z3 (z4 + 1) u)
theorem mX2_having_11_4 : Cond.fieldLink RX2 28 "HissHorn$Houses" "printTo" "[I" ∈ wsX2_having := (List.mem_cons_of_mem _ (List.mem_append_left _ (List.mem_of_getElem? (i := 3) rfl)))
def GX2_having_11_29 (k5 : Int32 → Int32 → Int32 → Int32 → SX → Option (Int32 × SX)) (z1 : Int32) (z2 : Int32) (z3 : Int32) (z4 : Int32) (y0 : Int32) (u : SX) : Option (Int32 × SX) := (gd (inb z4 40) (if z1 < (u.2.1 65 z4.toNatClampNeg) then (GX2_having_11_61 k5 z1 z2 z3 z4 u) else (gd (inb z4 40) (if (u.2.1 64 z4.toNatClampNeg) ≤ 0 then (GX2_having_11_61 k5 z1 z2 z3 z4 u) else (if y0 = z2 then (GX2_having_11_61 k5 z1 z2 (z3 + 1) z4 u) else (GX2_having_11_61 k5 z1 z2 z3 z4 u))))))
def LX2_having_11_5  : Nat → Int32 → Int32 → Int32 → Int32 → SX → Option (Int32 × SX)
  | 0, _, _, _, _, _ => none
  | n + 1, z1, z2, z3, z4, u => (if (u.1 36) ≤ z4 then (some (z3, u)) else (gd (inb z4 40) (if (u.2.1 63 z4.toNatClampNeg) ≤ 0 then (GX2_having_11_29 (LX2_having_11_5 n) z1 z2 z3 z4 0 u) else (GX2_having_11_29 (LX2_having_11_5 n) z1 z2 z3 z4 1 u))))
def fX2_having_11 (x1 : Int32) (x2 : Int32) (u : SX) : Option (Int32 × SX) := (LX2_having_11_5  5000 x1 x2 0 0 u)
set_option maxHeartbeats 4000000 in
set_option maxRecDepth 100000 in
theorem wGX2_having_11_61 {p : Program} {l : Launch} {e : Env} {s : State} {m : MethodId} {args : Array Value} {below : List Frame} {meth : Method} {c : Code} {D : va_G} {cy : Nat → ClassId} {ad st : Nat → Nat} (C : Cx RX2 cX2_having 6 (some .int) wsX2_having p s m args meth c) (hK : Ky D [(cy 0, .int), (cy 1, .long), (cy 2, .boolean), (cy 3, .byte), (cy 4, .object "HissHorn$Text")] st s) (hJ : JX ad st) {r : Int32} {u' : SX} {k5 : Int32 → Int32 → Int32 → Int32 → SX → Option (Int32 × SX)} (hk5 : ∀ (z1 : Int32) (z2 : Int32) (z3 : Int32) (z4 : Int32) (u : SX) (H : Heap) (locs : List Loc) (ls : Array Slot), k5 z1 z2 z3 z4 u = some (r, u') → va_P D vwCl (VX cy ad st u) H → va_S (Ax (AX ad) s.heap.size) s.heap H locs → lv_has ls 6 [(0, .ref (ad 11)), (1, .int z1), (2, .int z2), (3, .int z3), (4, .int z4)] → W p l e rmX2_having_11 s m args below meth c H locs 0 0 (MQ below (Qi D (VX cy ad st) (AX ad) s.heap.size r u') args s 0 0 (Ax (AX ad) s.heap.size)) (F0 m 5 ls [])) (z1 : Int32) (z2 : Int32) (z3 : Int32) (z4 : Int32) (u : SX) (H : Heap) (locs : List Loc) (ls : Array Slot) (h : GX2_having_11_61 k5 z1 z2 z3 z4 u = some (r, u')) (hP : va_P D vwCl (VX cy ad st u) H) (hS : va_S (Ax (AX ad) s.heap.size) s.heap H locs) (hl : lv_has ls 6 [(0, .ref (ad 11)), (1, .int z1), (2, .int z2), (3, .int z3), (4, .int z4)]) : W p l e rmX2_having_11 s m args below meth c H locs 0 0 (MQ below (Qi D (VX cy ad st) (AX ad) s.heap.size r u') args s 0 0 (Ax (AX ad) s.heap.size)) (F0 m 61 ls []) := by
  unfold GX2_having_11_61 at h
  refine lv_iinc (v := z4 + 1) (lv' := [(4, .int (z4 + 1)), (0, .ref (ad 11)), (1, .int z1), (2, .int z2), (3, .int z3)]) C.1 C.2.1 dX2_having_61 hl (k := 4) rfl rfl (by decide) rfl (fun ls hl => ?_)
  replace hl := lv_sub (l' := [(0, .ref (ad 11)), (1, .int z1), (2, .int z2), (3, .int z3), (4, .int (z4 + 1))]) hl [1, 2, 3, 4, 0] rfl
  refine lv_goto (tgt := 5) C.1 C.2.1 dX2_having_64 (by decide) ?_
  exact hk5 _ _ _ _ _ _ _ _ h hP hS hl
set_option maxHeartbeats 4000000 in
set_option maxRecDepth 100000 in
theorem wGX2_having_11_29 {p : Program} {l : Launch} {e : Env} {s : State} {m : MethodId} {args : Array Value} {below : List Frame} {meth : Method} {c : Code} {D : va_G} {cy : Nat → ClassId} {ad st : Nat → Nat} (C : Cx RX2 cX2_having 6 (some .int) wsX2_having p s m args meth c) (hK : Ky D [(cy 0, .int), (cy 1, .long), (cy 2, .boolean), (cy 3, .byte), (cy 4, .object "HissHorn$Text")] st s) (hJ : JX ad st) {r : Int32} {u' : SX} {k5 : Int32 → Int32 → Int32 → Int32 → SX → Option (Int32 × SX)} (hk5 : ∀ (z1 : Int32) (z2 : Int32) (z3 : Int32) (z4 : Int32) (u : SX) (H : Heap) (locs : List Loc) (ls : Array Slot), k5 z1 z2 z3 z4 u = some (r, u') → va_P D vwCl (VX cy ad st u) H → va_S (Ax (AX ad) s.heap.size) s.heap H locs → lv_has ls 6 [(0, .ref (ad 11)), (1, .int z1), (2, .int z2), (3, .int z3), (4, .int z4)] → W p l e rmX2_having_11 s m args below meth c H locs 0 0 (MQ below (Qi D (VX cy ad st) (AX ad) s.heap.size r u') args s 0 0 (Ax (AX ad) s.heap.size)) (F0 m 5 ls [])) (z1 : Int32) (z2 : Int32) (z3 : Int32) (z4 : Int32) (y0 : Int32) (u : SX) (H : Heap) (locs : List Loc) (ls : Array Slot) (h : GX2_having_11_29 k5 z1 z2 z3 z4 y0 u = some (r, u')) (hP : va_P D vwCl (VX cy ad st u) H) (hS : va_S (Ax (AX ad) s.heap.size) s.heap H locs) (hl : lv_has ls 6 [(0, .ref (ad 11)), (1, .int z1), (2, .int z2), (3, .int z3), (4, .int z4)]) : W p l e rmX2_having_11 s m args below meth c H locs 0 0 (MQ below (Qi D (VX cy ad st) (AX ad) s.heap.size r u') args s 0 0 (Ax (AX ad) s.heap.size)) (F0 m 29 ls [.int y0]) := by
  unfold GX2_having_11_29 at h
  refine lv_istore (lv' := [(5, .int y0), (0, .ref (ad 11)), (1, .int z1), (2, .int z2), (3, .int z3), (4, .int z4)]) C.1 C.2.1 dX2_having_29 hl (by decide) rfl (fun ls hl => ?_)
  replace hl := lv_sub (l' := [(0, .ref (ad 11)), (1, .int z1), (2, .int z2), (3, .int z3), (4, .int z4), (5, .int y0)]) hl [1, 2, 3, 4, 5, 0] rfl
  refine lv_aload_n C.1 C.2.1 dX2_having_31 rfl (lv_at hl 0 rfl) ?_
  refine gX_11_printDay C hX2_having_11_X2 hK hP mX2_having_11_3 dX2_having_32 ?_
  refine lv_iload C.1 C.2.1 dX2_having_35 (lv_at hl 4 rfl) ?_
  obtain ⟨hg2, h⟩ := gd_some h
  refine lX_65 C hK hP hg2 dX2_having_37 ?_
  refine lv_iload_n C.1 C.2.1 dX2_having_38 rfl (lv_at hl 1 rfl) ?_
  refine lv_icmp_gt (tgt := 61) C.1 C.2.1 dX2_having_39 (by decide) (fun c39 => ?_) (fun c39 => ?_)
  · rw [if_pos c39] at h
    exact wGX2_having_11_61 C hK hJ hk5 _ _ _ _ _ _ _ _ h hP hS (lv_sub hl [0, 1, 2, 3, 4] rfl)
  · rw [if_neg c39] at h
    refine lv_aload_n C.1 C.2.1 dX2_having_42 rfl (lv_at hl 0 rfl) ?_
    refine gX_11_printTo C hX2_having_11_X2 hK hP mX2_having_11_4 dX2_having_43 ?_
    refine lv_iload C.1 C.2.1 dX2_having_46 (lv_at hl 4 rfl) ?_
    obtain ⟨hg3, h⟩ := gd_some h
    refine lX_64 C hK hP hg3 dX2_having_48 ?_
    refine lv_if_le (tgt := 61) C.1 C.2.1 dX2_having_49 (by decide) (fun c49 => ?_) (fun c49 => ?_)
    · rw [if_pos c49] at h
      exact wGX2_having_11_61 C hK hJ hk5 _ _ _ _ _ _ _ _ h hP hS (lv_sub hl [0, 1, 2, 3, 4] rfl)
    · rw [if_neg c49] at h
      refine lv_iload C.1 C.2.1 dX2_having_52 (lv_at hl 5 rfl) ?_
      refine lv_iload_n C.1 C.2.1 dX2_having_54 rfl (lv_at hl 2 rfl) ?_
      refine lv_icmp_ne (tgt := 61) C.1 C.2.1 dX2_having_55 (by decide) (fun c55 => ?_) (fun c55 => ?_)
      · rw [if_neg c55] at h
        exact wGX2_having_11_61 C hK hJ hk5 _ _ _ _ _ _ _ _ h hP hS (lv_sub hl [0, 1, 2, 3, 4] rfl)
      · rw [if_pos c55] at h
        refine lv_iinc (v := z3 + 1) (lv' := [(3, .int (z3 + 1)), (0, .ref (ad 11)), (1, .int z1), (2, .int z2), (4, .int z4), (5, .int y0)]) C.1 C.2.1 dX2_having_58 hl (k := 3) rfl rfl (by decide) rfl (fun ls hl => ?_)
        replace hl := lv_sub (l' := [(0, .ref (ad 11)), (1, .int z1), (2, .int z2), (3, .int (z3 + 1)), (4, .int z4), (5, .int y0)]) hl [1, 2, 3, 0, 4, 5] rfl
        exact wGX2_having_11_61 C hK hJ hk5 _ _ _ _ _ _ _ _ h hP hS (lv_sub hl [0, 1, 2, 3, 4] rfl)
set_option maxHeartbeats 4000000 in
set_option maxRecDepth 100000 in
theorem wLX2_having_11_5 {p : Program} {l : Launch} {e : Env} {s : State} {m : MethodId} {args : Array Value} {below : List Frame} {meth : Method} {c : Code} {D : va_G} {cy : Nat → ClassId} {ad st : Nat → Nat} (C : Cx RX2 cX2_having 6 (some .int) wsX2_having p s m args meth c) (hK : Ky D [(cy 0, .int), (cy 1, .long), (cy 2, .boolean), (cy 3, .byte), (cy 4, .object "HissHorn$Text")] st s) (hJ : JX ad st) {r : Int32} {u' : SX}   : ∀ (n : Nat) (z1 : Int32) (z2 : Int32) (z3 : Int32) (z4 : Int32) (u : SX) (H : Heap) (locs : List Loc) (ls : Array Slot), LX2_having_11_5  n z1 z2 z3 z4 u = some (r, u') → va_P D vwCl (VX cy ad st u) H → va_S (Ax (AX ad) s.heap.size) s.heap H locs → lv_has ls 6 [(0, .ref (ad 11)), (1, .int z1), (2, .int z2), (3, .int z3), (4, .int z4)] → W p l e rmX2_having_11 s m args below meth c H locs 0 0 (MQ below (Qi D (VX cy ad st) (AX ad) s.heap.size r u') args s 0 0 (Ax (AX ad) s.heap.size)) (F0 m 5 ls []) := by
  intro n
  induction n with
  | zero =>
    intro z1 z2 z3 z4 u H locs ls h
    exact absurd h (by intro q; cases q)
  | succ n ih =>
    intro z1 z2 z3 z4 u H locs ls h hP hS hl
    rw [LX2_having_11_5] at h
    refine lv_iload C.1 C.2.1 dX2_having_5 (lv_at hl 4 rfl) ?_
    refine lv_aload_n C.1 C.2.1 dX2_having_7 rfl (lv_at hl 0 rfl) ?_
    refine gX_11_prints C hX2_having_11_X2 hK hP mX2_having_11_1 dX2_having_8 ?_
    refine lv_icmp_ge (tgt := 67) C.1 C.2.1 dX2_having_11 (by decide) (fun c11 => ?_) (fun c11 => ?_)
    · rw [if_pos c11] at h
      refine lv_iload_n C.1 C.2.1 dX2_having_67 rfl (lv_at hl 3 rfl) ?_
      cases h
      exact rt_i C hP hS dX2_having_68
    · rw [if_neg c11] at h
      refine lv_aload_n C.1 C.2.1 dX2_having_14 rfl (lv_at hl 0 rfl) ?_
      refine gX_11_printFrom C hX2_having_11_X2 hK hP mX2_having_11_2 dX2_having_15 ?_
      refine lv_iload C.1 C.2.1 dX2_having_18 (lv_at hl 4 rfl) ?_
      obtain ⟨hg1, h⟩ := gd_some h
      refine lX_63 C hK hP hg1 dX2_having_20 ?_
      refine lv_if_le (tgt := 28) C.1 C.2.1 dX2_having_21 (by decide) (fun c21 => ?_) (fun c21 => ?_)
      · rw [if_pos c21] at h
        refine lv_iconst (v := 0) C.1 C.2.1 dX2_having_28 (by decide) ?_
        exact wGX2_having_11_29 C hK hJ ih _ _ _ _ _ _ _ _ _ h hP hS hl
      · rw [if_neg c21] at h
        refine lv_iconst (v := 1) C.1 C.2.1 dX2_having_24 (by decide) ?_
        refine lv_goto (tgt := 29) C.1 C.2.1 dX2_having_25 (by decide) ?_
        exact wGX2_having_11_29 C hK hJ ih _ _ _ _ _ _ _ _ _ h hP hS hl
set_option maxHeartbeats 4000000 in
set_option maxRecDepth 100000 in
theorem wX2_having_11 {p : Program} {l : Launch} {e : Env} {s : State} {m : MethodId} {args : Array Value} {below : List Frame} {meth : Method} {c : Code} {D : va_G} {cy : Nat → ClassId} {ad st : Nat → Nat} (C : Cx RX2 cX2_having 6 (some .int) wsX2_having p s m args meth c) (hK : Ky D [(cy 0, .int), (cy 1, .long), (cy 2, .boolean), (cy 3, .byte), (cy 4, .object "HissHorn$Text")] st s) (hJ : JX ad st) (x1 : Int32) (x2 : Int32) {u : SX} {r : Int32} {u' : SX} {H : Heap} {locs : List Loc} {ls : Array Slot} (h : fX2_having_11 x1 x2 u = some (r, u')) (hP : va_P D vwCl (VX cy ad st u) H) (hS : va_S (Ax (AX ad) s.heap.size) s.heap H locs) (hl : lv_has ls 6 [(0, .ref (ad 11)), (1, .int x1), (2, .int x2)]) : W p l e rmX2_having_11 s m args below meth c H locs 0 0 (MQ below (Qi D (VX cy ad st) (AX ad) s.heap.size r u') args s 0 0 (Ax (AX ad) s.heap.size)) (F0 m 0 ls []) := by
  unfold fX2_having_11 at h
  refine lv_iconst (v := 0) C.1 C.2.1 dX2_having_0 (by decide) ?_
  refine lv_istore_n (lv' := [(3, .int 0), (0, .ref (ad 11)), (1, .int x1), (2, .int x2)]) C.1 C.2.1 dX2_having_1 rfl hl (by decide) rfl (fun ls hl => ?_)
  replace hl := lv_sub (l' := [(0, .ref (ad 11)), (1, .int x1), (2, .int x2), (3, .int 0)]) hl [1, 2, 3, 0] rfl
  refine lv_iconst (v := 0) C.1 C.2.1 dX2_having_2 (by decide) ?_
  refine lv_istore (lv' := [(4, .int 0), (0, .ref (ad 11)), (1, .int x1), (2, .int x2), (3, .int 0)]) C.1 C.2.1 dX2_having_3 hl (by decide) rfl (fun ls hl => ?_)
  replace hl := lv_sub (l' := [(0, .ref (ad 11)), (1, .int x1), (2, .int x2), (3, .int 0), (4, .int 0)]) hl [1, 2, 3, 4, 0] rfl
  exact wLX2_having_11_5 C hK hJ  5000 _ _ _ _ _ _ _ _ h hP hS hl
theorem metX2_having_11 (l : Launch) (D : va_G) (cy : Nat → ClassId) (ad st : Nat → Nat) (hJ : JX ad st) (sz : Nat) (x1 : Int32) (x2 : Int32) {u : SX} {r : Int32} {u' : SX} (h : fX2_having_11 x1 x2 u = some (r, u')) : Met l yX2_having wsX2_having rmX2_having_11 (va_Pc [.ref (ad 11), .int x1, .int x2] (Px D [(cy 0, .int), (cy 1, .long), (cy 2, .boolean), (cy 3, .byte), (cy 4, .object "HissHorn$Text")] st (VX cy ad st) sz u)) (Qi D (VX cy ad st) (AX ad) sz r u') 0 0 (Ax (AX ad) sz) := by
  refine Met.ofW (cc := cX2_having) (maxL := 6) (ret := (some .int)) (by decide) rfl ?_
  intro p e s m args below meth c s₁ B hml hv
  obtain ⟨rfl, hsz, hP, hK⟩ := hv
  subst hsz
  have C : Cx RX2 cX2_having 6 (some .int) wsX2_having p s m _ meth c := ⟨B.exec, B.bytes, hml, B.returns, findClass_of_methodNamed B.named, atoms_spec (ws := wsX2_having) B.pre, B.notSynchronized⟩
  have hl := lv_entry ([.ref (ad 11), .int x1, .int x2]) (n := 6) (Nat.le_of_ble_eq_true rfl)
  rw [lg_entry_eq]
  exact wX2_having_11 C hK hJ x1 x2 h hP va_S.rf hl

set_option maxRecDepth 20000 in
theorem ggX11_had_X2_having : GoodIn wsX11_had wsX2_having := ggi (fun w h => List.mem_cons_of_mem _ (List.mem_append_left _ (List.mem_append_left _ (List.mem_append_right _ (List.mem_append_left _ h))))) gs_X2_having
set_option maxRecDepth 20000 in
theorem gX11_had_X2_having : GoodIn wsX11_had (wsV RX11 336 RX2 yX2_having wsX2_having) := goodIn_app (goodIn_of _ (by decide +kernel)) ggX11_had_X2_having
theorem zdX11_had_29 : (and (and (and (and (and (zk cX11_had 29 (.invokevirtual 336) 3) (zk cX11_had 32 (.goto 4) 3)) (zk cX11_had 36 (.ireturn) 1)) (and (zk cX11_had 0 (.aload_n 0) 1) (zk cX11_had 1 (.iload_n 1) 1))) (and (and (and (zk cX11_had 2 (.invokevirtual 174) 3) (zk cX11_had 5 (.ifCond .eq 30) 3)) (zk cX11_had 35 (.iconst (-1)) 1)) (and (zk cX11_had 8 (.iload_n 2) 1) (zk cX11_had 9 (.invokestatic 177) 3)))) (and (and (and (and (zk cX11_had 12 (.ifCond .eq 23) 3) (zk cX11_had 15 (.aload_n 0) 1)) (zk cX11_had 16 (.getfield 90) 3)) (and (zk cX11_had 19 (.iload_n 1) 1) (zk cX11_had 20 (.iload_n 2) 1))) (and (and (zk cX11_had 21 (.ifCond .ne 7) 3) (zk cX11_had 28 (.iconst 0) 1)) (and (zk cX11_had 24 (.iconst 1) 1) (zk cX11_had 25 (.goto 4) 3))))) = true := by decide +kernel
theorem dX11_had_29 : decode cX11_had 29 = .ok (.invokevirtual 336, 3) := zk_of (zk_l (zk_l (zk_l (zk_l (zk_l zdX11_had_29)))))
theorem dX11_had_32 : decode cX11_had 32 = .ok (.goto 4, 3) := zk_of (zk_r (zk_l (zk_l (zk_l (zk_l zdX11_had_29)))))
theorem dX11_had_36 : decode cX11_had 36 = .ok (.ireturn, 1) := zk_of (zk_r (zk_l (zk_l (zk_l zdX11_had_29))))
theorem dX11_had_0 : decode cX11_had 0 = .ok (.aload_n 0, 1) := zk_of (zk_l (zk_r (zk_l (zk_l zdX11_had_29))))
theorem dX11_had_1 : decode cX11_had 1 = .ok (.iload_n 1, 1) := zk_of (zk_r (zk_r (zk_l (zk_l zdX11_had_29))))
theorem dX11_had_2 : decode cX11_had 2 = .ok (.invokevirtual 174, 3) := zk_of (zk_l (zk_l (zk_l (zk_r (zk_l zdX11_had_29)))))
theorem dX11_had_5 : decode cX11_had 5 = .ok (.ifCond .eq 30, 3) := zk_of (zk_r (zk_l (zk_l (zk_r (zk_l zdX11_had_29)))))
theorem dX11_had_35 : decode cX11_had 35 = .ok (.iconst (-1), 1) := zk_of (zk_r (zk_l (zk_r (zk_l zdX11_had_29))))
theorem dX11_had_8 : decode cX11_had 8 = .ok (.iload_n 2, 1) := zk_of (zk_l (zk_r (zk_r (zk_l zdX11_had_29))))
theorem dX11_had_9 : decode cX11_had 9 = .ok (.invokestatic 177, 3) := zk_of (zk_r (zk_r (zk_r (zk_l zdX11_had_29))))
theorem dX11_had_12 : decode cX11_had 12 = .ok (.ifCond .eq 23, 3) := zk_of (zk_l (zk_l (zk_l (zk_l (zk_r zdX11_had_29)))))
theorem dX11_had_15 : decode cX11_had 15 = .ok (.aload_n 0, 1) := zk_of (zk_r (zk_l (zk_l (zk_l (zk_r zdX11_had_29)))))
theorem dX11_had_16 : decode cX11_had 16 = .ok (.getfield 90, 3) := zk_of (zk_r (zk_l (zk_l (zk_r zdX11_had_29))))
theorem dX11_had_19 : decode cX11_had 19 = .ok (.iload_n 1, 1) := zk_of (zk_l (zk_r (zk_l (zk_r zdX11_had_29))))
theorem dX11_had_20 : decode cX11_had 20 = .ok (.iload_n 2, 1) := zk_of (zk_r (zk_r (zk_l (zk_r zdX11_had_29))))
theorem dX11_had_21 : decode cX11_had 21 = .ok (.ifCond .ne 7, 3) := zk_of (zk_l (zk_l (zk_r (zk_r zdX11_had_29))))
theorem dX11_had_28 : decode cX11_had 28 = .ok (.iconst 0, 1) := zk_of (zk_r (zk_l (zk_r (zk_r zdX11_had_29))))
theorem dX11_had_24 : decode cX11_had 24 = .ok (.iconst 1, 1) := zk_of (zk_l (zk_r (zk_r (zk_r zdX11_had_29))))
theorem dX11_had_25 : decode cX11_had 25 = .ok (.goto 4, 3) := zk_of (zk_r (zk_r (zk_r (zk_r zdX11_had_29))))
set_option maxRecDepth 20000 in
theorem ggX11_had_X11_isDay : GoodIn wsX11_had wsX11_isDay := ggi (fun w h => List.mem_cons_of_mem _ (List.mem_append_left _ (List.mem_append_left _ (List.mem_append_right _ (List.mem_append_right _ (List.mem_append_left _ h)))))) gs_X11_isDay
set_option maxRecDepth 20000 in
theorem gX11_had_X11_isDay : GoodIn wsX11_had (wsV RX11 174 RX11 yX11_isDay wsX11_isDay) := goodIn_app (goodIn_of _ (by decide +kernel)) ggX11_had_X11_isDay
set_option maxRecDepth 20000 in
theorem ggX11_had_X11_isEither : GoodIn wsX11_had wsX11_isEither := ggi (fun w h => List.mem_cons_of_mem _ (List.mem_append_left _ (List.mem_append_left _ (List.mem_append_right _ (List.mem_append_right _ (List.mem_append_right _ h)))))) gs_X11_isEither
set_option maxRecDepth 20000 in
theorem gX11_had_X11_isEither : GoodIn wsX11_had (va_wsS RX11 177 yX11_isEither wsX11_isEither) := goodIn_app (goodIn_of _ (by decide +kernel)) ggX11_had_X11_isEither
/-- HissHorn.had(II)I of cell 0 -/
def rmX11_had_0 : Room := { frames := 2, cells := 0, slots := 0, locals := 43 }
theorem hX11_had_0_X11 : ∀ w ∈ u_ws RX11 TX11 13, w ∈ wsX11_had := fun w h => (List.mem_cons_of_mem _ (List.mem_append_left _ (List.mem_append_right _ h)))
theorem mX11_had_0_1 : Cond.fieldLink RX11 90 "HissHorn" "houses" "LHissHorn$Houses;" ∈ wsX11_had := (List.mem_cons_of_mem _ (List.mem_append_left _ (List.mem_append_left _ (List.mem_append_left _ (List.mem_of_getElem? (i := 10) rfl)))))
def GX11_had_0_29 (y0 : Int32) (y1 : Int32) (u : SX) : Option (Int32 × SX) := ((fX2_having_11 y1 y0 u).bind fun q => match q with | (r7, u8) => (some (r7, u8)))
def fX11_had_0 (x1 : Int32) (x2 : Int32) (u : SX) : Option (Int32 × SX) := ((fX11_isDay_0 x1 u).bind fun q => match q with | (r1, u2) => (if r1 = 0 then (some ((-1), u2)) else ((fX11_isEither x2).bind fun r4 => (if r4 = 0 then (some ((-1), u2)) else (if x2 = 0 then (GX11_had_0_29 1 x1 u2) else (GX11_had_0_29 0 x1 u2))))))
set_option maxHeartbeats 4000000 in
set_option maxRecDepth 100000 in
theorem wGX11_had_0_29 {p : Program} {l : Launch} {e : Env} {s : State} {m : MethodId} {args : Array Value} {below : List Frame} {meth : Method} {c : Code} {D : va_G} {cy : Nat → ClassId} {ad st : Nat → Nat} (C : Cx RX11 cX11_had 3 (some .int) wsX11_had p s m args meth c) (hK : Ky D [(cy 0, .int), (cy 1, .long), (cy 2, .boolean), (cy 3, .byte), (cy 4, .object "HissHorn$Text")] st s) (hJ : JX ad st) {r : Int32} {u' : SX}   (y0 : Int32) (y1 : Int32) (u : SX) (H : Heap) (locs : List Loc) (ls : Array Slot) (h : GX11_had_0_29 y0 y1 u = some (r, u')) (hP : va_P D vwCl (VX cy ad st u) H) (hS : va_S (Ax (AX ad) s.heap.size) s.heap H locs) (hl : lv_has ls 3 []) : W p l e rmX11_had_0 s m args below meth c H locs 0 0 (MQ below (Qi D (VX cy ad st) (AX ad) s.heap.size r u') args s 0 0 (Ax (AX ad) s.heap.size)) (F0 m 29 ls [.int y0, .int y1, .ref (ad 11)]) := by
  unfold GX11_had_0_29 at h
  obtain ⟨⟨r7, u8⟩, hc9, h⟩ := bd_some h
  try dsimp only at h
  refine cg_i (As := [.int y1, .int y0]) (rest := []) (AX_ge hJ) C hK hP hS (metX2_having_11 l D cy ad st hJ _ y1 y0 hc9) (cwV 2 C.2.2.2.2.2.1 gX11_had_X2_having rfl rfl rfl (by decide +kernel) ⟨(Nat.le_of_ble_eq_true rfl), (Nat.le_of_ble_eq_true rfl)⟩) 11 2 rfl rfl rfl hl.1 rfl (Nat.le_of_ble_eq_true rfl) dX11_had_29 ⟨Nat.zero_le _, Nat.zero_le _⟩ (fun H locs hP hS => ?_)
  refine lv_goto (tgt := 36) C.1 C.2.1 dX11_had_32 (by decide) ?_
  cases h
  exact rt_i C hP hS dX11_had_36
set_option maxHeartbeats 4000000 in
set_option maxRecDepth 100000 in
theorem wX11_had_0 {p : Program} {l : Launch} {e : Env} {s : State} {m : MethodId} {args : Array Value} {below : List Frame} {meth : Method} {c : Code} {D : va_G} {cy : Nat → ClassId} {ad st : Nat → Nat} (C : Cx RX11 cX11_had 3 (some .int) wsX11_had p s m args meth c) (hK : Ky D [(cy 0, .int), (cy 1, .long), (cy 2, .boolean), (cy 3, .byte), (cy 4, .object "HissHorn$Text")] st s) (hJ : JX ad st) (x1 : Int32) (x2 : Int32) {u : SX} {r : Int32} {u' : SX} {H : Heap} {locs : List Loc} {ls : Array Slot} (h : fX11_had_0 x1 x2 u = some (r, u')) (hP : va_P D vwCl (VX cy ad st u) H) (hS : va_S (Ax (AX ad) s.heap.size) s.heap H locs) (hl : lv_has ls 3 [(0, .ref (ad 0)), (1, .int x1), (2, .int x2)]) : W p l e rmX11_had_0 s m args below meth c H locs 0 0 (MQ below (Qi D (VX cy ad st) (AX ad) s.heap.size r u') args s 0 0 (Ax (AX ad) s.heap.size)) (F0 m 0 ls []) := by
  unfold fX11_had_0 at h
  refine lv_aload_n C.1 C.2.1 dX11_had_0 rfl (lv_at hl 0 rfl) ?_
  refine lv_iload_n C.1 C.2.1 dX11_had_1 rfl (lv_at hl 1 rfl) ?_
  obtain ⟨⟨r1, u2⟩, hc3, h⟩ := bd_some h
  try dsimp only at h
  refine cg_i (As := [.int x1]) (rest := []) (AX_ge hJ) C hK hP hS (metX11_isDay_0 l D cy ad st hJ _ x1 hc3) (cwV 1 C.2.2.2.2.2.1 gX11_had_X11_isDay rfl rfl rfl (by decide +kernel) ⟨(Nat.le_of_ble_eq_true rfl), (Nat.le_of_ble_eq_true rfl)⟩) 0 11 rfl rfl rfl hl.1 rfl (Nat.le_of_ble_eq_true rfl) dX11_had_2 ⟨Nat.zero_le _, Nat.zero_le _⟩ (fun H locs hP hS => ?_)
  refine lv_if_eq (tgt := 35) C.1 C.2.1 dX11_had_5 (by decide) (fun c5 => ?_) (fun c5 => ?_)
  · rw [if_pos c5] at h
    refine lv_iconst (v := (-1)) C.1 C.2.1 dX11_had_35 (by decide) ?_
    cases h
    exact rt_i C hP hS dX11_had_36
  · rw [if_neg c5] at h
    refine lv_iload_n C.1 C.2.1 dX11_had_8 rfl (lv_at hl 2 rfl) ?_
    obtain ⟨r4, hc6, h⟩ := bd_some h
    refine cs_i (As := [.int x2]) (rest := []) (AX_ge hJ) C hK hP hS (metX11_isEither l D cy st _ x2 hc6) (va_cwS 1 C.2.2.2.2.2.1 gX11_had_X11_isEither rfl rfl rfl (by decide +kernel) ⟨(Nat.le_of_ble_eq_true rfl), (Nat.le_of_ble_eq_true rfl)⟩) rfl hl.1 rfl (Nat.le_of_ble_eq_true rfl) dX11_had_9 ⟨Nat.zero_le _, Nat.zero_le _⟩ (fun H locs hP hS => ?_)
    refine lv_if_eq (tgt := 35) C.1 C.2.1 dX11_had_12 (by decide) (fun c12 => ?_) (fun c12 => ?_)
    · rw [if_pos c12] at h
      refine lv_iconst (v := (-1)) C.1 C.2.1 dX11_had_35 (by decide) ?_
      cases h
      exact rt_i C hP hS dX11_had_36
    · rw [if_neg c12] at h
      refine lv_aload_n C.1 C.2.1 dX11_had_15 rfl (lv_at hl 0 rfl) ?_
      refine gX_0_houses C hX11_had_0_X11 hK hP mX11_had_0_1 dX11_had_16 ?_
      refine lv_iload_n C.1 C.2.1 dX11_had_19 rfl (lv_at hl 1 rfl) ?_
      refine lv_iload_n C.1 C.2.1 dX11_had_20 rfl (lv_at hl 2 rfl) ?_
      refine lv_if_ne (tgt := 28) C.1 C.2.1 dX11_had_21 (by decide) (fun c21 => ?_) (fun c21 => ?_)
      · rw [if_neg c21] at h
        refine lv_iconst (v := 0) C.1 C.2.1 dX11_had_28 (by decide) ?_
        exact wGX11_had_0_29 C hK hJ _ _ _ _ _ _ h hP hS (lv_sub hl [] rfl)
      · rw [if_pos c21] at h
        refine lv_iconst (v := 1) C.1 C.2.1 dX11_had_24 (by decide) ?_
        refine lv_goto (tgt := 29) C.1 C.2.1 dX11_had_25 (by decide) ?_
        exact wGX11_had_0_29 C hK hJ _ _ _ _ _ _ h hP hS (lv_sub hl [] rfl)
theorem metX11_had_0 (l : Launch) (D : va_G) (cy : Nat → ClassId) (ad st : Nat → Nat) (hJ : JX ad st) (sz : Nat) (x1 : Int32) (x2 : Int32) {u : SX} {r : Int32} {u' : SX} (h : fX11_had_0 x1 x2 u = some (r, u')) : Met l yX11_had wsX11_had rmX11_had_0 (va_Pc [.ref (ad 0), .int x1, .int x2] (Px D [(cy 0, .int), (cy 1, .long), (cy 2, .boolean), (cy 3, .byte), (cy 4, .object "HissHorn$Text")] st (VX cy ad st) sz u)) (Qi D (VX cy ad st) (AX ad) sz r u') 0 0 (Ax (AX ad) sz) := by
  refine Met.ofW (cc := cX11_had) (maxL := 3) (ret := (some .int)) (by decide) rfl ?_
  intro p e s m args below meth c s₁ B hml hv
  obtain ⟨rfl, hsz, hP, hK⟩ := hv
  subst hsz
  have C : Cx RX11 cX11_had 3 (some .int) wsX11_had p s m _ meth c := ⟨B.exec, B.bytes, hml, B.returns, findClass_of_methodNamed B.named, atoms_spec (ws := wsX11_had) B.pre, B.notSynchronized⟩
  have hl := lv_entry ([.ref (ad 0), .int x1, .int x2]) (n := 3) (Nat.le_of_ble_eq_true rfl)
  rw [lg_entry_eq]
  exact wX11_had_0 C hK hJ x1 x2 h hP va_S.rf hl

theorem zdX2_send_0 : (and (and (and (and (and (zk cX2_send 0 (.aload_n 0) 1) (zk cX2_send 1 (.getfield 88) 3)) (and (zk cX2_send 4 (.bipush 60) 2) (zk cX2_send 6 (.if_icmp .lt 4) 3))) (and (and (zk cX2_send 10 (.aload_n 0) 1) (zk cX2_send 11 (.getfield 15) 3)) (and (zk cX2_send 14 (.aload_n 0) 1) (zk cX2_send 15 (.getfield 88) 3)))) (and (and (and (zk cX2_send 18 (.iload_n 1) 1) (zk cX2_send 19 (.iastore) 1)) (and (zk cX2_send 20 (.aload_n 0) 1) (zk cX2_send 21 (.getfield 19) 3))) (and (and (zk cX2_send 24 (.aload_n 0) 1) (zk cX2_send 25 (.getfield 88) 3)) (and (zk cX2_send 28 (.iload_n 2) 1) (zk cX2_send 29 (.iastore) 1))))) (and (and (and (and (zk cX2_send 30 (.aload_n 0) 1) (zk cX2_send 31 (.getfield 22) 3)) (and (zk cX2_send 34 (.aload_n 0) 1) (zk cX2_send 35 (.getfield 88) 3))) (and (and (zk cX2_send 38 (.iload_n 3) 1) (zk cX2_send 39 (.iastore) 1)) (and (zk cX2_send 40 (.aload_n 0) 1) (zk cX2_send 41 (.dup) 1)))) (and (and (and (zk cX2_send 42 (.getfield 88) 3) (zk cX2_send 45 (.iconst 1) 1)) (and (zk cX2_send 46 (.iadd) 1) (zk cX2_send 47 (.putfield 88) 3))) (and (and (zk cX2_send 50 (.aload_n 0) 1) (zk cX2_send 51 (.getfield 9) 3)) (and (zk cX2_send 54 (.iload_n 3) 1) (zk cX2_send 55 (.iconst 1) 1)))))) = true := by decide +kernel
theorem dX2_send_0 : decode cX2_send 0 = .ok (.aload_n 0, 1) := zk_of (zk_l (zk_l (zk_l (zk_l (zk_l zdX2_send_0)))))
theorem dX2_send_1 : decode cX2_send 1 = .ok (.getfield 88, 3) := zk_of (zk_r (zk_l (zk_l (zk_l (zk_l zdX2_send_0)))))
theorem dX2_send_4 : decode cX2_send 4 = .ok (.bipush 60, 2) := zk_of (zk_l (zk_r (zk_l (zk_l (zk_l zdX2_send_0)))))
theorem dX2_send_6 : decode cX2_send 6 = .ok (.if_icmp .lt 4, 3) := zk_of (zk_r (zk_r (zk_l (zk_l (zk_l zdX2_send_0)))))
theorem dX2_send_10 : decode cX2_send 10 = .ok (.aload_n 0, 1) := zk_of (zk_l (zk_l (zk_r (zk_l (zk_l zdX2_send_0)))))
theorem dX2_send_11 : decode cX2_send 11 = .ok (.getfield 15, 3) := zk_of (zk_r (zk_l (zk_r (zk_l (zk_l zdX2_send_0)))))
theorem dX2_send_14 : decode cX2_send 14 = .ok (.aload_n 0, 1) := zk_of (zk_l (zk_r (zk_r (zk_l (zk_l zdX2_send_0)))))
theorem dX2_send_15 : decode cX2_send 15 = .ok (.getfield 88, 3) := zk_of (zk_r (zk_r (zk_r (zk_l (zk_l zdX2_send_0)))))
theorem dX2_send_18 : decode cX2_send 18 = .ok (.iload_n 1, 1) := zk_of (zk_l (zk_l (zk_l (zk_r (zk_l zdX2_send_0)))))
theorem dX2_send_19 : decode cX2_send 19 = .ok (.iastore, 1) := zk_of (zk_r (zk_l (zk_l (zk_r (zk_l zdX2_send_0)))))
theorem dX2_send_20 : decode cX2_send 20 = .ok (.aload_n 0, 1) := zk_of (zk_l (zk_r (zk_l (zk_r (zk_l zdX2_send_0)))))
theorem dX2_send_21 : decode cX2_send 21 = .ok (.getfield 19, 3) := zk_of (zk_r (zk_r (zk_l (zk_r (zk_l zdX2_send_0)))))
theorem dX2_send_24 : decode cX2_send 24 = .ok (.aload_n 0, 1) := zk_of (zk_l (zk_l (zk_r (zk_r (zk_l zdX2_send_0)))))
theorem dX2_send_25 : decode cX2_send 25 = .ok (.getfield 88, 3) := zk_of (zk_r (zk_l (zk_r (zk_r (zk_l zdX2_send_0)))))
theorem dX2_send_28 : decode cX2_send 28 = .ok (.iload_n 2, 1) := zk_of (zk_l (zk_r (zk_r (zk_r (zk_l zdX2_send_0)))))
theorem dX2_send_29 : decode cX2_send 29 = .ok (.iastore, 1) := zk_of (zk_r (zk_r (zk_r (zk_r (zk_l zdX2_send_0)))))
theorem dX2_send_30 : decode cX2_send 30 = .ok (.aload_n 0, 1) := zk_of (zk_l (zk_l (zk_l (zk_l (zk_r zdX2_send_0)))))
theorem dX2_send_31 : decode cX2_send 31 = .ok (.getfield 22, 3) := zk_of (zk_r (zk_l (zk_l (zk_l (zk_r zdX2_send_0)))))
theorem dX2_send_34 : decode cX2_send 34 = .ok (.aload_n 0, 1) := zk_of (zk_l (zk_r (zk_l (zk_l (zk_r zdX2_send_0)))))
theorem dX2_send_35 : decode cX2_send 35 = .ok (.getfield 88, 3) := zk_of (zk_r (zk_r (zk_l (zk_l (zk_r zdX2_send_0)))))
theorem dX2_send_38 : decode cX2_send 38 = .ok (.iload_n 3, 1) := zk_of (zk_l (zk_l (zk_r (zk_l (zk_r zdX2_send_0)))))
theorem dX2_send_39 : decode cX2_send 39 = .ok (.iastore, 1) := zk_of (zk_r (zk_l (zk_r (zk_l (zk_r zdX2_send_0)))))
theorem dX2_send_40 : decode cX2_send 40 = .ok (.aload_n 0, 1) := zk_of (zk_l (zk_r (zk_r (zk_l (zk_r zdX2_send_0)))))
theorem dX2_send_41 : decode cX2_send 41 = .ok (.dup, 1) := zk_of (zk_r (zk_r (zk_r (zk_l (zk_r zdX2_send_0)))))
theorem dX2_send_42 : decode cX2_send 42 = .ok (.getfield 88, 3) := zk_of (zk_l (zk_l (zk_l (zk_r (zk_r zdX2_send_0)))))
theorem dX2_send_45 : decode cX2_send 45 = .ok (.iconst 1, 1) := zk_of (zk_r (zk_l (zk_l (zk_r (zk_r zdX2_send_0)))))
theorem dX2_send_46 : decode cX2_send 46 = .ok (.iadd, 1) := zk_of (zk_l (zk_r (zk_l (zk_r (zk_r zdX2_send_0)))))
theorem dX2_send_47 : decode cX2_send 47 = .ok (.putfield 88, 3) := zk_of (zk_r (zk_r (zk_l (zk_r (zk_r zdX2_send_0)))))
theorem dX2_send_50 : decode cX2_send 50 = .ok (.aload_n 0, 1) := zk_of (zk_l (zk_l (zk_r (zk_r (zk_r zdX2_send_0)))))
theorem dX2_send_51 : decode cX2_send 51 = .ok (.getfield 9, 3) := zk_of (zk_r (zk_l (zk_r (zk_r (zk_r zdX2_send_0)))))
theorem dX2_send_54 : decode cX2_send 54 = .ok (.iload_n 3, 1) := zk_of (zk_l (zk_r (zk_r (zk_r (zk_r zdX2_send_0)))))
theorem dX2_send_55 : decode cX2_send 55 = .ok (.iconst 1, 1) := zk_of (zk_r (zk_r (zk_r (zk_r (zk_r zdX2_send_0)))))
theorem zdX2_send_56 : (and (and (and (and (zk cX2_send 56 (.bastore) 1) (zk cX2_send 57 (.aload_n 0) 1)) (zk cX2_send 58 (.aload_n 0) 1)) (and (zk cX2_send 59 (.getfield 79) 3) (zk cX2_send 62 (.iload_n 3) 1))) (and (and (zk cX2_send 63 (.invokestatic 82) 3) (zk cX2_send 66 (.putfield 79) 3)) (and (zk cX2_send 69 (.return_) 1) (zk cX2_send 9 (.return_) 1)))) = true := by decide +kernel
theorem dX2_send_56 : decode cX2_send 56 = .ok (.bastore, 1) := zk_of (zk_l (zk_l (zk_l (zk_l zdX2_send_56))))
theorem dX2_send_57 : decode cX2_send 57 = .ok (.aload_n 0, 1) := zk_of (zk_r (zk_l (zk_l (zk_l zdX2_send_56))))
theorem dX2_send_58 : decode cX2_send 58 = .ok (.aload_n 0, 1) := zk_of (zk_r (zk_l (zk_l zdX2_send_56)))
theorem dX2_send_59 : decode cX2_send 59 = .ok (.getfield 79, 3) := zk_of (zk_l (zk_r (zk_l zdX2_send_56)))
theorem dX2_send_62 : decode cX2_send 62 = .ok (.iload_n 3, 1) := zk_of (zk_r (zk_r (zk_l zdX2_send_56)))
theorem dX2_send_63 : decode cX2_send 63 = .ok (.invokestatic 82, 3) := zk_of (zk_l (zk_l (zk_r zdX2_send_56)))
theorem dX2_send_66 : decode cX2_send 66 = .ok (.putfield 79, 3) := zk_of (zk_r (zk_l (zk_r zdX2_send_56)))
theorem dX2_send_69 : decode cX2_send 69 = .ok (.return_, 1) := zk_of (zk_l (zk_r (zk_r zdX2_send_56)))
theorem dX2_send_9 : decode cX2_send 9 = .ok (.return_, 1) := zk_of (zk_r (zk_r (zk_r zdX2_send_56)))
/-- HissHorn$Houses.send(III)V of cell 11 -/
def rmX2_send_11 : Room := { frames := 1, cells := 0, slots := 0, locals := 14 }
theorem hX2_send_11_X2 : ∀ w ∈ u_ws RX2 TX2 18, w ∈ wsX2_send := fun w h => (List.mem_cons_of_mem _ (List.mem_append_right _ h))
theorem mX2_send_11_1 : Cond.fieldLink RX2 88 "HissHorn$Houses" "letters" "I" ∈ wsX2_send := (List.mem_cons_of_mem _ (List.mem_append_left _ (List.mem_of_getElem? (i := 0) rfl)))
theorem mX2_send_11_2 : Cond.fieldLink RX2 15 "HissHorn$Houses" "letterFrom" "[I" ∈ wsX2_send := (List.mem_cons_of_mem _ (List.mem_append_left _ (List.mem_of_getElem? (i := 1) rfl)))
theorem mX2_send_11_3 : Cond.fieldLink RX2 19 "HissHorn$Houses" "letterTo" "[I" ∈ wsX2_send := (List.mem_cons_of_mem _ (List.mem_append_left _ (List.mem_of_getElem? (i := 2) rfl)))
theorem mX2_send_11_4 : Cond.fieldLink RX2 22 "HissHorn$Houses" "letterDay" "[I" ∈ wsX2_send := (List.mem_cons_of_mem _ (List.mem_append_left _ (List.mem_of_getElem? (i := 3) rfl)))
theorem mX2_send_11_5 : Cond.fieldLink RX2 9 "HissHorn$Houses" "busy" "[Z" ∈ wsX2_send := (List.mem_cons_of_mem _ (List.mem_append_left _ (List.mem_of_getElem? (i := 4) rfl)))
theorem mX2_send_11_6 : Cond.fieldLink RX2 79 "HissHorn$Houses" "settled" "I" ∈ wsX2_send := (List.mem_cons_of_mem _ (List.mem_append_left _ (List.mem_of_getElem? (i := 5) rfl)))
theorem mX2_send_11_7 : Cond.methodLink RX2 82 Lib.Math.min.name ∈ wsX2_send := (List.mem_cons_of_mem _ (List.mem_append_left _ (List.mem_of_getElem? (i := 6) rfl)))
theorem mX2_send_11_8 : Cond.static Lib.Math.min.name ∈ wsX2_send := (List.mem_cons_of_mem _ (List.mem_append_left _ (List.mem_of_getElem? (i := 7) rfl)))
theorem mX2_send_11_9 : Cond.initialized "java/lang/Math" ∈ wsX2_send := (List.mem_cons_of_mem _ (List.mem_append_left _ (List.mem_of_getElem? (i := 8) rfl)))
theorem mX2_send_11_10 : Cond.code Lib.Math.min.name Lib.Math.min.code 2 (some .int) ∈ wsX2_send := (List.mem_cons_of_mem _ (List.mem_append_left _ (List.mem_of_getElem? (i := 9) rfl)))
def fX2_send_11 (x1 : Int32) (x2 : Int32) (x3 : Int32) (u : SX) : Option (Int32 × SX) := (if (u.1 38) < 60 then (gd (inb (u.1 38) 60) (lt (sA u 60 (upd (u.2.1 60) (u.1 38).toNatClampNeg x1)) fun u2 => (gd (inb (u2.1 38) 60) (lt (sA u2 61 (upd (u2.2.1 61) (u2.1 38).toNatClampNeg x2)) fun u5 => (gd (inb (u5.1 38) 60) (lt (sA u5 62 (upd (u5.2.1 62) (u5.1 38).toNatClampNeg x3)) fun u8 => (lt (sI u8 38 ((u8.1 38) + 1)) fun u10 => (gd (inb x3 121) (lt (sA u10 59 (upd (u10.2.1 59) x3.toNatClampNeg (vp_nar .boolean 1))) fun u13 => (lt (sI u13 39 (if x3 < (u13.1 39) then x3 else (u13.1 39))) fun u15 => (some (0, u15)))))))))))) else (some (0, u)))
set_option maxHeartbeats 4000000 in
set_option maxRecDepth 100000 in
theorem wX2_send_11 {p : Program} {l : Launch} {e : Env} {s : State} {m : MethodId} {args : Array Value} {below : List Frame} {meth : Method} {c : Code} {D : va_G} {cy : Nat → ClassId} {ad st : Nat → Nat} (C : Cx RX2 cX2_send 4 none wsX2_send p s m args meth c) (hK : Ky D [(cy 0, .int), (cy 1, .long), (cy 2, .boolean), (cy 3, .byte), (cy 4, .object "HissHorn$Text")] st s) (hJ : JX ad st) (x1 : Int32) (x2 : Int32) (x3 : Int32) {u : SX} {r : Int32} {u' : SX} {H : Heap} {locs : List Loc} {ls : Array Slot} (h : fX2_send_11 x1 x2 x3 u = some (r, u')) (hP : va_P D vwCl (VX cy ad st u) H) (hS : va_S (Ax (AX ad) s.heap.size) s.heap H locs) (hl : lv_has ls 4 [(0, .ref (ad 11)), (1, .int x1), (2, .int x2), (3, .int x3)]) : W p l e rmX2_send_11 s m args below meth c H locs 0 0 (MQ below (Qv D (VX cy ad st) (AX ad) s.heap.size r u') args s 0 0 (Ax (AX ad) s.heap.size)) (F0 m 0 ls []) := by
  unfold fX2_send_11 at h
  refine lv_aload_n C.1 C.2.1 dX2_send_0 rfl (lv_at hl 0 rfl) ?_
  refine gX_11_letters C hX2_send_11_X2 hK hP mX2_send_11_1 dX2_send_1 ?_
  refine lv_bipush (v := 60) C.1 C.2.1 dX2_send_4 (by decide) ?_
  refine lv_icmp_lt (tgt := 10) C.1 C.2.1 dX2_send_6 (by decide) (fun c6 => ?_) (fun c6 => ?_)
  · rw [if_pos c6] at h
    refine lv_aload_n C.1 C.2.1 dX2_send_10 rfl (lv_at hl 0 rfl) ?_
    refine gX_11_letterFrom C hX2_send_11_X2 hK hP mX2_send_11_2 dX2_send_11 ?_
    refine lv_aload_n C.1 C.2.1 dX2_send_14 rfl (lv_at hl 0 rfl) ?_
    refine gX_11_letters C hX2_send_11_X2 hK hP mX2_send_11_1 dX2_send_15 ?_
    refine lv_iload_n C.1 C.2.1 dX2_send_18 rfl (lv_at hl 1 rfl) ?_
    obtain ⟨hg1, h⟩ := gd_some h
    refine tX_60 C hK hP hJ hS hg1 dX2_send_19 (fun H locs hP hS => ?_)
    obtain ⟨u2, hu3, h⟩ := lt_some h
    rw [← hu3] at hP
    refine lv_aload_n C.1 C.2.1 dX2_send_20 rfl (lv_at hl 0 rfl) ?_
    refine gX_11_letterTo C hX2_send_11_X2 hK hP mX2_send_11_3 dX2_send_21 ?_
    refine lv_aload_n C.1 C.2.1 dX2_send_24 rfl (lv_at hl 0 rfl) ?_
    refine gX_11_letters C hX2_send_11_X2 hK hP mX2_send_11_1 dX2_send_25 ?_
    refine lv_iload_n C.1 C.2.1 dX2_send_28 rfl (lv_at hl 2 rfl) ?_
    obtain ⟨hg4, h⟩ := gd_some h
    refine tX_61 C hK hP hJ hS hg4 dX2_send_29 (fun H locs hP hS => ?_)
    obtain ⟨u5, hu6, h⟩ := lt_some h
    rw [← hu6] at hP
    refine lv_aload_n C.1 C.2.1 dX2_send_30 rfl (lv_at hl 0 rfl) ?_
    refine gX_11_letterDay C hX2_send_11_X2 hK hP mX2_send_11_4 dX2_send_31 ?_
    refine lv_aload_n C.1 C.2.1 dX2_send_34 rfl (lv_at hl 0 rfl) ?_
    refine gX_11_letters C hX2_send_11_X2 hK hP mX2_send_11_1 dX2_send_35 ?_
    refine lv_iload_n C.1 C.2.1 dX2_send_38 rfl (lv_at hl 3 rfl) ?_
    obtain ⟨hg7, h⟩ := gd_some h
    refine tX_62 C hK hP hJ hS hg7 dX2_send_39 (fun H locs hP hS => ?_)
    obtain ⟨u8, hu9, h⟩ := lt_some h
    rw [← hu9] at hP
    refine lv_aload_n C.1 C.2.1 dX2_send_40 rfl (lv_at hl 0 rfl) ?_
    refine lv_dup C.1 C.2.1 dX2_send_41 rfl ?_
    refine gX_11_letters C hX2_send_11_X2 hK hP mX2_send_11_1 dX2_send_42 ?_
    refine lv_iconst (v := 1) C.1 C.2.1 dX2_send_45 (by decide) ?_
    refine lv_iadd C.1 C.2.1 dX2_send_46 ?_
    refine pX_11_letters C hX2_send_11_X2 hK hP hJ hS mX2_send_11_1 dX2_send_47 (fun H locs hP hS => ?_)
    obtain ⟨u10, hu11, h⟩ := lt_some h
    rw [← hu11] at hP
    refine lv_aload_n C.1 C.2.1 dX2_send_50 rfl (lv_at hl 0 rfl) ?_
    refine gX_11_busy C hX2_send_11_X2 hK hP mX2_send_11_5 dX2_send_51 ?_
    refine lv_iload_n C.1 C.2.1 dX2_send_54 rfl (lv_at hl 3 rfl) ?_
    refine lv_iconst (v := 1) C.1 C.2.1 dX2_send_55 (by decide) ?_
    obtain ⟨hg12, h⟩ := gd_some h
    refine tX_59 C hK hP hJ hS hg12 dX2_send_56 (fun H locs hP hS => ?_)
    obtain ⟨u13, hu14, h⟩ := lt_some h
    rw [← hu14] at hP
    refine lv_aload_n C.1 C.2.1 dX2_send_57 rfl (lv_at hl 0 rfl) ?_
    refine lv_aload_n C.1 C.2.1 dX2_send_58 rfl (lv_at hl 0 rfl) ?_
    refine gX_11_settled C hX2_send_11_X2 hK hP mX2_send_11_6 dX2_send_59 ?_
    refine lv_iload_n C.1 C.2.1 dX2_send_62 rfl (lv_at hl 3 rfl) ?_
    refine va_mmin C.1 C.2.1 (C.2.2.1.trans hl.1.symm) C.2.2.2.2.1 (C.2.2.2.2.2.1 _ mX2_send_11_7) (C.2.2.2.2.2.1 _ mX2_send_11_8) (C.2.2.2.2.2.1 _ mX2_send_11_9) (C.2.2.2.2.2.1 _ mX2_send_11_10) (Nat.le_of_ble_eq_true rfl) (Nat.le_of_ble_eq_true rfl) (Nat.zero_le _) (Nat.zero_le _) dX2_send_63 ?_
    refine pX_11_settled C hX2_send_11_X2 hK hP hJ hS mX2_send_11_6 dX2_send_66 (fun H locs hP hS => ?_)
    obtain ⟨u15, hu16, h⟩ := lt_some h
    rw [← hu16] at hP
    cases h
    exact rt_v C hP hS dX2_send_69
  · rw [if_neg c6] at h
    cases h
    exact rt_v C hP hS dX2_send_9
theorem metX2_send_11 (l : Launch) (D : va_G) (cy : Nat → ClassId) (ad st : Nat → Nat) (hJ : JX ad st) (sz : Nat) (x1 : Int32) (x2 : Int32) (x3 : Int32) {u : SX} {r : Int32} {u' : SX} (h : fX2_send_11 x1 x2 x3 u = some (r, u')) : Met l yX2_send wsX2_send rmX2_send_11 (va_Pc [.ref (ad 11), .int x1, .int x2, .int x3] (Px D [(cy 0, .int), (cy 1, .long), (cy 2, .boolean), (cy 3, .byte), (cy 4, .object "HissHorn$Text")] st (VX cy ad st) sz u)) (Qv D (VX cy ad st) (AX ad) sz r u') 0 0 (Ax (AX ad) sz) := by
  refine Met.ofW (cc := cX2_send) (maxL := 4) (ret := none) (by decide) rfl ?_
  intro p e s m args below meth c s₁ B hml hv
  obtain ⟨rfl, hsz, hP, hK⟩ := hv
  subst hsz
  have C : Cx RX2 cX2_send 4 none wsX2_send p s m _ meth c := ⟨B.exec, B.bytes, hml, B.returns, findClass_of_methodNamed B.named, atoms_spec (ws := wsX2_send) B.pre, B.notSynchronized⟩
  have hl := lv_entry ([.ref (ad 11), .int x1, .int x2, .int x3]) (n := 4) (Nat.le_of_ble_eq_true rfl)
  rw [lg_entry_eq]
  exact wX2_send_11 C hK hJ x1 x2 x3 h hP va_S.rf hl

theorem zdX11_letter_0 : (and (and (and (and (and (zk cX11_letter 0 (.aload_n 0) 1) (zk cX11_letter 1 (.getfield 90) 3)) (and (zk cX11_letter 4 (.iload_n 1) 1) (zk cX11_letter 5 (.invokevirtual 323) 3))) (and (and (zk cX11_letter 8 (.ifCond .eq 31) 3) (zk cX11_letter 39 (.iconst 0) 1)) (and (zk cX11_letter 40 (.ireturn) 1) (zk cX11_letter 11 (.aload_n 0) 1)))) (and (and (and (zk cX11_letter 12 (.getfield 90) 3) (zk cX11_letter 15 (.iload_n 2) 1)) (and (zk cX11_letter 16 (.invokevirtual 323) 3) (zk cX11_letter 19 (.ifCond .eq 20) 3))) (and (and (zk cX11_letter 22 (.iload_n 1) 1) (zk cX11_letter 23 (.iload_n 2) 1)) (zk cX11_letter 24 (.if_icmp .eq 15) 3)))) (and (and (and (and (zk cX11_letter 27 (.aload_n 0) 1) (zk cX11_letter 28 (.getfield 90) 3)) (and (zk cX11_letter 31 (.getfield 340) 3) (zk cX11_letter 34 (.bipush 60) 2))) (and (and (zk cX11_letter 36 (.if_icmp .lt 5) 3) (zk cX11_letter 41 (.aload_n 0) 1)) (zk cX11_letter 42 (.getfield 90) 3))) (and (and (and (zk cX11_letter 45 (.iload_n 1) 1) (zk cX11_letter 46 (.iload_n 2) 1)) (and (zk cX11_letter 47 (.aload_n 0) 1) (zk cX11_letter 48 (.getfield 103) 3))) (and (and (zk cX11_letter 51 (.invokevirtual 342) 3) (zk cX11_letter 54 (.iconst 1) 1)) (zk cX11_letter 55 (.ireturn) 1))))) = true := by decide +kernel
theorem dX11_letter_0 : decode cX11_letter 0 = .ok (.aload_n 0, 1) := zk_of (zk_l (zk_l (zk_l (zk_l (zk_l zdX11_letter_0)))))
theorem dX11_letter_1 : decode cX11_letter 1 = .ok (.getfield 90, 3) := zk_of (zk_r (zk_l (zk_l (zk_l (zk_l zdX11_letter_0)))))
theorem dX11_letter_4 : decode cX11_letter 4 = .ok (.iload_n 1, 1) := zk_of (zk_l (zk_r (zk_l (zk_l (zk_l zdX11_letter_0)))))
theorem dX11_letter_5 : decode cX11_letter 5 = .ok (.invokevirtual 323, 3) := zk_of (zk_r (zk_r (zk_l (zk_l (zk_l zdX11_letter_0)))))
theorem dX11_letter_8 : decode cX11_letter 8 = .ok (.ifCond .eq 31, 3) := zk_of (zk_l (zk_l (zk_r (zk_l (zk_l zdX11_letter_0)))))
theorem dX11_letter_39 : decode cX11_letter 39 = .ok (.iconst 0, 1) := zk_of (zk_r (zk_l (zk_r (zk_l (zk_l zdX11_letter_0)))))
theorem dX11_letter_40 : decode cX11_letter 40 = .ok (.ireturn, 1) := zk_of (zk_l (zk_r (zk_r (zk_l (zk_l zdX11_letter_0)))))
theorem dX11_letter_11 : decode cX11_letter 11 = .ok (.aload_n 0, 1) := zk_of (zk_r (zk_r (zk_r (zk_l (zk_l zdX11_letter_0)))))
theorem dX11_letter_12 : decode cX11_letter 12 = .ok (.getfield 90, 3) := zk_of (zk_l (zk_l (zk_l (zk_r (zk_l zdX11_letter_0)))))
theorem dX11_letter_15 : decode cX11_letter 15 = .ok (.iload_n 2, 1) := zk_of (zk_r (zk_l (zk_l (zk_r (zk_l zdX11_letter_0)))))
theorem dX11_letter_16 : decode cX11_letter 16 = .ok (.invokevirtual 323, 3) := zk_of (zk_l (zk_r (zk_l (zk_r (zk_l zdX11_letter_0)))))
theorem dX11_letter_19 : decode cX11_letter 19 = .ok (.ifCond .eq 20, 3) := zk_of (zk_r (zk_r (zk_l (zk_r (zk_l zdX11_letter_0)))))
theorem dX11_letter_22 : decode cX11_letter 22 = .ok (.iload_n 1, 1) := zk_of (zk_l (zk_l (zk_r (zk_r (zk_l zdX11_letter_0)))))
theorem dX11_letter_23 : decode cX11_letter 23 = .ok (.iload_n 2, 1) := zk_of (zk_r (zk_l (zk_r (zk_r (zk_l zdX11_letter_0)))))
theorem dX11_letter_24 : decode cX11_letter 24 = .ok (.if_icmp .eq 15, 3) := zk_of (zk_r (zk_r (zk_r (zk_l zdX11_letter_0))))
theorem dX11_letter_27 : decode cX11_letter 27 = .ok (.aload_n 0, 1) := zk_of (zk_l (zk_l (zk_l (zk_l (zk_r zdX11_letter_0)))))
theorem dX11_letter_28 : decode cX11_letter 28 = .ok (.getfield 90, 3) := zk_of (zk_r (zk_l (zk_l (zk_l (zk_r zdX11_letter_0)))))
theorem dX11_letter_31 : decode cX11_letter 31 = .ok (.getfield 340, 3) := zk_of (zk_l (zk_r (zk_l (zk_l (zk_r zdX11_letter_0)))))
theorem dX11_letter_34 : decode cX11_letter 34 = .ok (.bipush 60, 2) := zk_of (zk_r (zk_r (zk_l (zk_l (zk_r zdX11_letter_0)))))
theorem dX11_letter_36 : decode cX11_letter 36 = .ok (.if_icmp .lt 5, 3) := zk_of (zk_l (zk_l (zk_r (zk_l (zk_r zdX11_letter_0)))))
theorem dX11_letter_41 : decode cX11_letter 41 = .ok (.aload_n 0, 1) := zk_of (zk_r (zk_l (zk_r (zk_l (zk_r zdX11_letter_0)))))
theorem dX11_letter_42 : decode cX11_letter 42 = .ok (.getfield 90, 3) := zk_of (zk_r (zk_r (zk_l (zk_r zdX11_letter_0))))
theorem dX11_letter_45 : decode cX11_letter 45 = .ok (.iload_n 1, 1) := zk_of (zk_l (zk_l (zk_l (zk_r (zk_r zdX11_letter_0)))))
theorem dX11_letter_46 : decode cX11_letter 46 = .ok (.iload_n 2, 1) := zk_of (zk_r (zk_l (zk_l (zk_r (zk_r zdX11_letter_0)))))
theorem dX11_letter_47 : decode cX11_letter 47 = .ok (.aload_n 0, 1) := zk_of (zk_l (zk_r (zk_l (zk_r (zk_r zdX11_letter_0)))))
theorem dX11_letter_48 : decode cX11_letter 48 = .ok (.getfield 103, 3) := zk_of (zk_r (zk_r (zk_l (zk_r (zk_r zdX11_letter_0)))))
theorem dX11_letter_51 : decode cX11_letter 51 = .ok (.invokevirtual 342, 3) := zk_of (zk_l (zk_l (zk_r (zk_r (zk_r zdX11_letter_0)))))
theorem dX11_letter_54 : decode cX11_letter 54 = .ok (.iconst 1, 1) := zk_of (zk_r (zk_l (zk_r (zk_r (zk_r zdX11_letter_0)))))
theorem dX11_letter_55 : decode cX11_letter 55 = .ok (.ireturn, 1) := zk_of (zk_r (zk_r (zk_r (zk_r zdX11_letter_0))))
set_option maxRecDepth 20000 in
theorem ggX11_letter_X2_has : GoodIn wsX11_letter wsX2_has := ggi (fun w h => List.mem_cons_of_mem _ (List.mem_append_left _ (List.mem_append_left _ (List.mem_append_right _ (List.mem_append_left _ h))))) gs_X2_has
set_option maxRecDepth 20000 in
theorem gX11_letter_X2_has : GoodIn wsX11_letter (wsV RX11 323 RX2 yX2_has wsX2_has) := goodIn_app (goodIn_of _ (by decide +kernel)) ggX11_letter_X2_has
set_option maxRecDepth 20000 in
theorem ggX11_letter_X2_send : GoodIn wsX11_letter wsX2_send := ggi (fun w h => List.mem_cons_of_mem _ (List.mem_append_left _ (List.mem_append_left _ (List.mem_append_right _ (List.mem_append_right _ h))))) gs_X2_send
set_option maxRecDepth 20000 in
theorem gX11_letter_X2_send : GoodIn wsX11_letter (wsV RX11 342 RX2 yX2_send wsX2_send) := goodIn_app (goodIn_of _ (by decide +kernel)) ggX11_letter_X2_send
/-- HissHorn.letter(II)Z of cell 0 -/
def rmX11_letter_0 : Room := { frames := 2, cells := 0, slots := 0, locals := 37 }
theorem hX11_letter_0_X11 : ∀ w ∈ u_ws RX11 TX11 13, w ∈ wsX11_letter := fun w h => (List.mem_cons_of_mem _ (List.mem_append_left _ (List.mem_append_right _ h)))
theorem mX11_letter_0_1 : Cond.fieldLink RX11 90 "HissHorn" "houses" "LHissHorn$Houses;" ∈ wsX11_letter := (List.mem_cons_of_mem _ (List.mem_append_left _ (List.mem_append_left _ (List.mem_append_left _ (List.mem_of_getElem? (i := 7) rfl)))))
theorem hX11_letter_0_X2 : ∀ w ∈ u_ws RX2 TX2 18, w ∈ wsX11_letter := fun w h => (List.mem_cons_of_mem _ (List.mem_append_right _ h))
theorem mX11_letter_0_3 : Cond.fieldLink RX11 340 "HissHorn$Houses" "letters" "I" ∈ wsX11_letter := (List.mem_cons_of_mem _ (List.mem_append_left _ (List.mem_append_left _ (List.mem_append_left _ (List.mem_of_getElem? (i := 8) rfl)))))
theorem mX11_letter_0_4 : Cond.fieldLink RX11 103 "HissHorn" "now" "I" ∈ wsX11_letter := (List.mem_cons_of_mem _ (List.mem_append_left _ (List.mem_append_left _ (List.mem_append_left _ (List.mem_of_getElem? (i := 9) rfl)))))
def fX11_letter_0 (x1 : Int32) (x2 : Int32) (u : SX) : Option (Int32 × SX) := ((fX2_has_11 x1 u).bind fun q => match q with | (r1, u2) => (if r1 = 0 then (gd (isB 0) (some (0, u2))) else ((fX2_has_11 x2 u2).bind fun q => match q with | (r5, u6) => (if r5 = 0 then (gd (isB 0) (some (0, u6))) else (if x1 = x2 then (gd (isB 0) (some (0, u6))) else (if (u6.1 38) < 60 then ((fX2_send_11 x1 x2 (u6.1 0) u6).bind fun q => match q with | (r10, u11) => (gd (isB 1) (some (1, u11)))) else (gd (isB 0) (some (0, u6)))))))))
set_option maxHeartbeats 4000000 in
set_option maxRecDepth 100000 in
theorem wX11_letter_0 {p : Program} {l : Launch} {e : Env} {s : State} {m : MethodId} {args : Array Value} {below : List Frame} {meth : Method} {c : Code} {D : va_G} {cy : Nat → ClassId} {ad st : Nat → Nat} (C : Cx RX11 cX11_letter 3 (some .boolean) wsX11_letter p s m args meth c) (hK : Ky D [(cy 0, .int), (cy 1, .long), (cy 2, .boolean), (cy 3, .byte), (cy 4, .object "HissHorn$Text")] st s) (hJ : JX ad st) (x1 : Int32) (x2 : Int32) {u : SX} {r : Int32} {u' : SX} {H : Heap} {locs : List Loc} {ls : Array Slot} (h : fX11_letter_0 x1 x2 u = some (r, u')) (hP : va_P D vwCl (VX cy ad st u) H) (hS : va_S (Ax (AX ad) s.heap.size) s.heap H locs) (hl : lv_has ls 3 [(0, .ref (ad 0)), (1, .int x1), (2, .int x2)]) : W p l e rmX11_letter_0 s m args below meth c H locs 0 0 (MQ below (Qi D (VX cy ad st) (AX ad) s.heap.size r u') args s 0 0 (Ax (AX ad) s.heap.size)) (F0 m 0 ls []) := by
  unfold fX11_letter_0 at h
  refine lv_aload_n C.1 C.2.1 dX11_letter_0 rfl (lv_at hl 0 rfl) ?_
  refine gX_0_houses C hX11_letter_0_X11 hK hP mX11_letter_0_1 dX11_letter_1 ?_
  refine lv_iload_n C.1 C.2.1 dX11_letter_4 rfl (lv_at hl 1 rfl) ?_
  obtain ⟨⟨r1, u2⟩, hc3, h⟩ := bd_some h
  try dsimp only at h
  refine cg_i (As := [.int x1]) (rest := []) (AX_ge hJ) C hK hP hS (metX2_has_11 l D cy ad st hJ _ x1 hc3) (cwV 1 C.2.2.2.2.2.1 gX11_letter_X2_has rfl rfl rfl (by decide +kernel) ⟨(Nat.le_of_ble_eq_true rfl), (Nat.le_of_ble_eq_true rfl)⟩) 11 2 rfl rfl rfl hl.1 rfl (Nat.le_of_ble_eq_true rfl) dX11_letter_5 ⟨Nat.zero_le _, Nat.zero_le _⟩ (fun H locs hP hS => ?_)
  refine lv_if_eq (tgt := 39) C.1 C.2.1 dX11_letter_8 (by decide) (fun c8 => ?_) (fun c8 => ?_)
  · rw [if_pos c8] at h
    refine lv_iconst (v := 0) C.1 C.2.1 dX11_letter_39 (by decide) ?_
    obtain ⟨hg4, h⟩ := gd_some h
    cases h
    exact rt_z hg4 C hP hS dX11_letter_40
  · rw [if_neg c8] at h
    refine lv_aload_n C.1 C.2.1 dX11_letter_11 rfl (lv_at hl 0 rfl) ?_
    refine gX_0_houses C hX11_letter_0_X11 hK hP mX11_letter_0_1 dX11_letter_12 ?_
    refine lv_iload_n C.1 C.2.1 dX11_letter_15 rfl (lv_at hl 2 rfl) ?_
    obtain ⟨⟨r5, u6⟩, hc7, h⟩ := bd_some h
    try dsimp only at h
    refine cg_i (As := [.int x2]) (rest := []) (AX_ge hJ) C hK hP hS (metX2_has_11 l D cy ad st hJ _ x2 hc7) (cwV 1 C.2.2.2.2.2.1 gX11_letter_X2_has rfl rfl rfl (by decide +kernel) ⟨(Nat.le_of_ble_eq_true rfl), (Nat.le_of_ble_eq_true rfl)⟩) 11 2 rfl rfl rfl hl.1 rfl (Nat.le_of_ble_eq_true rfl) dX11_letter_16 ⟨Nat.zero_le _, Nat.zero_le _⟩ (fun H locs hP hS => ?_)
    refine lv_if_eq (tgt := 39) C.1 C.2.1 dX11_letter_19 (by decide) (fun c19 => ?_) (fun c19 => ?_)
    · rw [if_pos c19] at h
      refine lv_iconst (v := 0) C.1 C.2.1 dX11_letter_39 (by decide) ?_
      obtain ⟨hg8, h⟩ := gd_some h
      cases h
      exact rt_z hg8 C hP hS dX11_letter_40
    · rw [if_neg c19] at h
      refine lv_iload_n C.1 C.2.1 dX11_letter_22 rfl (lv_at hl 1 rfl) ?_
      refine lv_iload_n C.1 C.2.1 dX11_letter_23 rfl (lv_at hl 2 rfl) ?_
      refine lv_icmp_eq (tgt := 39) C.1 C.2.1 dX11_letter_24 (by decide) (fun c24 => ?_) (fun c24 => ?_)
      · rw [if_pos c24] at h
        refine lv_iconst (v := 0) C.1 C.2.1 dX11_letter_39 (by decide) ?_
        obtain ⟨hg9, h⟩ := gd_some h
        cases h
        exact rt_z hg9 C hP hS dX11_letter_40
      · rw [if_neg c24] at h
        refine lv_aload_n C.1 C.2.1 dX11_letter_27 rfl (lv_at hl 0 rfl) ?_
        refine gX_0_houses C hX11_letter_0_X11 hK hP mX11_letter_0_1 dX11_letter_28 ?_
        refine gX_11_letters C hX11_letter_0_X2 hK hP mX11_letter_0_3 dX11_letter_31 ?_
        refine lv_bipush (v := 60) C.1 C.2.1 dX11_letter_34 (by decide) ?_
        refine lv_icmp_lt (tgt := 41) C.1 C.2.1 dX11_letter_36 (by decide) (fun c36 => ?_) (fun c36 => ?_)
        · rw [if_pos c36] at h
          refine lv_aload_n C.1 C.2.1 dX11_letter_41 rfl (lv_at hl 0 rfl) ?_
          refine gX_0_houses C hX11_letter_0_X11 hK hP mX11_letter_0_1 dX11_letter_42 ?_
          refine lv_iload_n C.1 C.2.1 dX11_letter_45 rfl (lv_at hl 1 rfl) ?_
          refine lv_iload_n C.1 C.2.1 dX11_letter_46 rfl (lv_at hl 2 rfl) ?_
          refine lv_aload_n C.1 C.2.1 dX11_letter_47 rfl (lv_at hl 0 rfl) ?_
          refine gX_0_now C hX11_letter_0_X11 hK hP mX11_letter_0_4 dX11_letter_48 ?_
          obtain ⟨⟨r10, u11⟩, hc12, h⟩ := bd_some h
          try dsimp only at h
          refine cg_v (As := [.int x1, .int x2, .int (u6.1 0)]) (rest := []) (AX_ge hJ) C hK hP hS (metX2_send_11 l D cy ad st hJ _ x1 x2 (u6.1 0) hc12) (cwV 3 C.2.2.2.2.2.1 gX11_letter_X2_send rfl rfl rfl (by decide +kernel) ⟨(Nat.le_of_ble_eq_true rfl), (Nat.le_of_ble_eq_true rfl)⟩) 11 2 rfl rfl rfl hl.1 rfl (Nat.le_of_ble_eq_true rfl) dX11_letter_51 ⟨Nat.zero_le _, Nat.zero_le _⟩ (fun H locs hP hS => ?_)
          refine lv_iconst (v := 1) C.1 C.2.1 dX11_letter_54 (by decide) ?_
          obtain ⟨hg13, h⟩ := gd_some h
          cases h
          exact rt_z hg13 C hP hS dX11_letter_55
        · rw [if_neg c36] at h
          refine lv_iconst (v := 0) C.1 C.2.1 dX11_letter_39 (by decide) ?_
          obtain ⟨hg14, h⟩ := gd_some h
          cases h
          exact rt_z hg14 C hP hS dX11_letter_40
theorem metX11_letter_0 (l : Launch) (D : va_G) (cy : Nat → ClassId) (ad st : Nat → Nat) (hJ : JX ad st) (sz : Nat) (x1 : Int32) (x2 : Int32) {u : SX} {r : Int32} {u' : SX} (h : fX11_letter_0 x1 x2 u = some (r, u')) : Met l yX11_letter wsX11_letter rmX11_letter_0 (va_Pc [.ref (ad 0), .int x1, .int x2] (Px D [(cy 0, .int), (cy 1, .long), (cy 2, .boolean), (cy 3, .byte), (cy 4, .object "HissHorn$Text")] st (VX cy ad st) sz u)) (Qi D (VX cy ad st) (AX ad) sz r u') 0 0 (Ax (AX ad) sz) := by
  refine Met.ofW (cc := cX11_letter) (maxL := 3) (ret := (some .boolean)) (by decide) rfl ?_
  intro p e s m args below meth c s₁ B hml hv
  obtain ⟨rfl, hsz, hP, hK⟩ := hv
  subst hsz
  have C : Cx RX11 cX11_letter 3 (some .boolean) wsX11_letter p s m _ meth c := ⟨B.exec, B.bytes, hml, B.returns, findClass_of_methodNamed B.named, atoms_spec (ws := wsX11_letter) B.pre, B.notSynchronized⟩
  have hl := lv_entry ([.ref (ad 0), .int x1, .int x2]) (n := 3) (Nat.le_of_ble_eq_true rfl)
  rw [lg_entry_eq]
  exact wX11_letter_0 C hK hJ x1 x2 h hP va_S.rf hl

theorem zdX2_knownBy_0 : (and (and (and (and (zk cX2_knownBy 0 (.iload_n 2) 1) (zk cX2_knownBy 1 (.ifCond .ge 7) 3)) (and (zk cX2_knownBy 8 (.aload_n 0) 1) (zk cX2_knownBy 9 (.getfield 47) 3))) (and (and (zk cX2_knownBy 12 (.iload_n 2) 1) (zk cX2_knownBy 13 (.bipush 8) 2)) (zk cX2_knownBy 15 (.imul) 1))) (and (and (and (zk cX2_knownBy 16 (.iload_n 1) 1) (zk cX2_knownBy 17 (.iadd) 1)) (zk cX2_knownBy 18 (.laload) 1)) (and (and (zk cX2_knownBy 19 (.lreturn) 1) (zk cX2_knownBy 4 (.lconst 0) 1)) (zk cX2_knownBy 5 (.goto 14) 3)))) = true := by decide +kernel
theorem dX2_knownBy_0 : decode cX2_knownBy 0 = .ok (.iload_n 2, 1) := zk_of (zk_l (zk_l (zk_l (zk_l zdX2_knownBy_0))))
theorem dX2_knownBy_1 : decode cX2_knownBy 1 = .ok (.ifCond .ge 7, 3) := zk_of (zk_r (zk_l (zk_l (zk_l zdX2_knownBy_0))))
theorem dX2_knownBy_8 : decode cX2_knownBy 8 = .ok (.aload_n 0, 1) := zk_of (zk_l (zk_r (zk_l (zk_l zdX2_knownBy_0))))
theorem dX2_knownBy_9 : decode cX2_knownBy 9 = .ok (.getfield 47, 3) := zk_of (zk_r (zk_r (zk_l (zk_l zdX2_knownBy_0))))
theorem dX2_knownBy_12 : decode cX2_knownBy 12 = .ok (.iload_n 2, 1) := zk_of (zk_l (zk_l (zk_r (zk_l zdX2_knownBy_0))))
theorem dX2_knownBy_13 : decode cX2_knownBy 13 = .ok (.bipush 8, 2) := zk_of (zk_r (zk_l (zk_r (zk_l zdX2_knownBy_0))))
theorem dX2_knownBy_15 : decode cX2_knownBy 15 = .ok (.imul, 1) := zk_of (zk_r (zk_r (zk_l zdX2_knownBy_0)))
theorem dX2_knownBy_16 : decode cX2_knownBy 16 = .ok (.iload_n 1, 1) := zk_of (zk_l (zk_l (zk_l (zk_r zdX2_knownBy_0))))
theorem dX2_knownBy_17 : decode cX2_knownBy 17 = .ok (.iadd, 1) := zk_of (zk_r (zk_l (zk_l (zk_r zdX2_knownBy_0))))
theorem dX2_knownBy_18 : decode cX2_knownBy 18 = .ok (.laload, 1) := zk_of (zk_r (zk_l (zk_r zdX2_knownBy_0)))
theorem dX2_knownBy_19 : decode cX2_knownBy 19 = .ok (.lreturn, 1) := zk_of (zk_l (zk_l (zk_r (zk_r zdX2_knownBy_0))))
theorem dX2_knownBy_4 : decode cX2_knownBy 4 = .ok (.lconst 0, 1) := zk_of (zk_r (zk_l (zk_r (zk_r zdX2_knownBy_0))))
theorem dX2_knownBy_5 : decode cX2_knownBy 5 = .ok (.goto 14, 3) := zk_of (zk_r (zk_r (zk_r zdX2_knownBy_0)))
/-- HissHorn$Houses.knownBy(II)J of cell 11 -/
def rmX2_knownBy_11 : Room := { frames := 0, cells := 0, slots := 0, locals := 0 }
theorem hX2_knownBy_11_X2 : ∀ w ∈ u_ws RX2 TX2 18, w ∈ wsX2_knownBy := fun w h => (List.mem_cons_of_mem _ (List.mem_append_right _ h))
theorem mX2_knownBy_11_1 : Cond.fieldLink RX2 47 "HissHorn$Houses" "known" "[J" ∈ wsX2_knownBy := (List.mem_cons_of_mem _ (List.mem_append_left _ (List.mem_of_getElem? (i := 0) rfl)))
def fX2_knownBy_11 (x1 : Int32) (x2 : Int32) (u : SX) : Option (Int64 × SX) := (if 0 ≤ x2 then (gd (inb ((x2 * 8) + x1) 968) (some (u.2.2.2.1 70 ((x2 * 8) + x1).toNatClampNeg, u))) else (some (0, u)))
set_option maxHeartbeats 4000000 in
set_option maxRecDepth 100000 in
theorem wX2_knownBy_11 {p : Program} {l : Launch} {e : Env} {s : State} {m : MethodId} {args : Array Value} {below : List Frame} {meth : Method} {c : Code} {D : va_G} {cy : Nat → ClassId} {ad st : Nat → Nat} (C : Cx RX2 cX2_knownBy 3 (some .long) wsX2_knownBy p s m args meth c) (hK : Ky D [(cy 0, .int), (cy 1, .long), (cy 2, .boolean), (cy 3, .byte), (cy 4, .object "HissHorn$Text")] st s) (hJ : JX ad st) (x1 : Int32) (x2 : Int32) {u : SX} {r : Int64} {u' : SX} {H : Heap} {locs : List Loc} {ls : Array Slot} (h : fX2_knownBy_11 x1 x2 u = some (r, u')) (hP : va_P D vwCl (VX cy ad st u) H) (hS : va_S (Ax (AX ad) s.heap.size) s.heap H locs) (hl : lv_has ls 3 [(0, .ref (ad 11)), (1, .int x1), (2, .int x2)]) : W p l e rmX2_knownBy_11 s m args below meth c H locs 0 0 (MQ below (Ql D (VX cy ad st) (AX ad) s.heap.size r u') args s 0 0 (Ax (AX ad) s.heap.size)) (F0 m 0 ls []) := by
  unfold fX2_knownBy_11 at h
  refine lv_iload_n C.1 C.2.1 dX2_knownBy_0 rfl (lv_at hl 2 rfl) ?_
  refine lv_if_ge (tgt := 8) C.1 C.2.1 dX2_knownBy_1 (by decide) (fun c1 => ?_) (fun c1 => ?_)
  · rw [if_pos c1] at h
    refine lv_aload_n C.1 C.2.1 dX2_knownBy_8 rfl (lv_at hl 0 rfl) ?_
    refine gX_11_known C hX2_knownBy_11_X2 hK hP mX2_knownBy_11_1 dX2_knownBy_9 ?_
    refine lv_iload_n C.1 C.2.1 dX2_knownBy_12 rfl (lv_at hl 2 rfl) ?_
    refine lv_bipush (v := 8) C.1 C.2.1 dX2_knownBy_13 (by decide) ?_
    refine lv_imul C.1 C.2.1 dX2_knownBy_15 ?_
    refine lv_iload_n C.1 C.2.1 dX2_knownBy_16 rfl (lv_at hl 1 rfl) ?_
    refine lv_iadd C.1 C.2.1 dX2_knownBy_17 ?_
    obtain ⟨hg1, h⟩ := gd_some h
    refine lX_70 C hK hP hg1 dX2_knownBy_18 ?_
    cases h
    exact rt_l C hP hS dX2_knownBy_19
  · rw [if_neg c1] at h
    refine lv_lconst (v := 0) C.1 C.2.1 dX2_knownBy_4 (by decide) ?_
    refine lv_goto (tgt := 19) C.1 C.2.1 dX2_knownBy_5 (by decide) ?_
    cases h
    exact rt_l C hP hS dX2_knownBy_19
theorem metX2_knownBy_11 (l : Launch) (D : va_G) (cy : Nat → ClassId) (ad st : Nat → Nat) (hJ : JX ad st) (sz : Nat) (x1 : Int32) (x2 : Int32) {u : SX} {r : Int64} {u' : SX} (h : fX2_knownBy_11 x1 x2 u = some (r, u')) : Met l yX2_knownBy wsX2_knownBy rmX2_knownBy_11 (va_Pc [.ref (ad 11), .int x1, .int x2] (Px D [(cy 0, .int), (cy 1, .long), (cy 2, .boolean), (cy 3, .byte), (cy 4, .object "HissHorn$Text")] st (VX cy ad st) sz u)) (Ql D (VX cy ad st) (AX ad) sz r u') 0 0 (Ax (AX ad) sz) := by
  refine Met.ofW (cc := cX2_knownBy) (maxL := 3) (ret := (some .long)) (by decide) rfl ?_
  intro p e s m args below meth c s₁ B hml hv
  obtain ⟨rfl, hsz, hP, hK⟩ := hv
  subst hsz
  have C : Cx RX2 cX2_knownBy 3 (some .long) wsX2_knownBy p s m _ meth c := ⟨B.exec, B.bytes, hml, B.returns, findClass_of_methodNamed B.named, atoms_spec (ws := wsX2_knownBy) B.pre, B.notSynchronized⟩
  have hl := lv_entry ([.ref (ad 11), .int x1, .int x2]) (n := 3) (Nat.le_of_ble_eq_true rfl)
  rw [lg_entry_eq]
  exact wX2_knownBy_11 C hK hJ x1 x2 h hP va_S.rf hl

theorem zdX2_toldBy_0 : (and (and (and (and (zk cX2_toldBy 0 (.aload_n 0) 1) (zk cX2_toldBy 1 (.getfield 44) 3)) (zk cX2_toldBy 4 (.iload_n 2) 1)) (and (zk cX2_toldBy 5 (.bipush 8) 2) (zk cX2_toldBy 7 (.imul) 1))) (and (and (zk cX2_toldBy 8 (.iload_n 1) 1) (zk cX2_toldBy 9 (.iadd) 1)) (and (zk cX2_toldBy 10 (.laload) 1) (zk cX2_toldBy 11 (.lreturn) 1)))) = true := by decide +kernel
theorem dX2_toldBy_0 : decode cX2_toldBy 0 = .ok (.aload_n 0, 1) := zk_of (zk_l (zk_l (zk_l (zk_l zdX2_toldBy_0))))
theorem dX2_toldBy_1 : decode cX2_toldBy 1 = .ok (.getfield 44, 3) := zk_of (zk_r (zk_l (zk_l (zk_l zdX2_toldBy_0))))
theorem dX2_toldBy_4 : decode cX2_toldBy 4 = .ok (.iload_n 2, 1) := zk_of (zk_r (zk_l (zk_l zdX2_toldBy_0)))
theorem dX2_toldBy_5 : decode cX2_toldBy 5 = .ok (.bipush 8, 2) := zk_of (zk_l (zk_r (zk_l zdX2_toldBy_0)))
theorem dX2_toldBy_7 : decode cX2_toldBy 7 = .ok (.imul, 1) := zk_of (zk_r (zk_r (zk_l zdX2_toldBy_0)))
theorem dX2_toldBy_8 : decode cX2_toldBy 8 = .ok (.iload_n 1, 1) := zk_of (zk_l (zk_l (zk_r zdX2_toldBy_0)))
theorem dX2_toldBy_9 : decode cX2_toldBy 9 = .ok (.iadd, 1) := zk_of (zk_r (zk_l (zk_r zdX2_toldBy_0)))
theorem dX2_toldBy_10 : decode cX2_toldBy 10 = .ok (.laload, 1) := zk_of (zk_l (zk_r (zk_r zdX2_toldBy_0)))
theorem dX2_toldBy_11 : decode cX2_toldBy 11 = .ok (.lreturn, 1) := zk_of (zk_r (zk_r (zk_r zdX2_toldBy_0)))
/-- HissHorn$Houses.toldBy(II)J of cell 11 -/
def rmX2_toldBy_11 : Room := { frames := 0, cells := 0, slots := 0, locals := 0 }
theorem hX2_toldBy_11_X2 : ∀ w ∈ u_ws RX2 TX2 18, w ∈ wsX2_toldBy := fun w h => (List.mem_cons_of_mem _ (List.mem_append_right _ h))
theorem mX2_toldBy_11_1 : Cond.fieldLink RX2 44 "HissHorn$Houses" "told" "[J" ∈ wsX2_toldBy := (List.mem_cons_of_mem _ (List.mem_append_left _ (List.mem_of_getElem? (i := 0) rfl)))
def fX2_toldBy_11 (x1 : Int32) (x2 : Int32) (u : SX) : Option (Int64 × SX) := (gd (inb ((x2 * 8) + x1) 968) (some (u.2.2.2.1 69 ((x2 * 8) + x1).toNatClampNeg, u)))
set_option maxHeartbeats 4000000 in
set_option maxRecDepth 100000 in
theorem wX2_toldBy_11 {p : Program} {l : Launch} {e : Env} {s : State} {m : MethodId} {args : Array Value} {below : List Frame} {meth : Method} {c : Code} {D : va_G} {cy : Nat → ClassId} {ad st : Nat → Nat} (C : Cx RX2 cX2_toldBy 3 (some .long) wsX2_toldBy p s m args meth c) (hK : Ky D [(cy 0, .int), (cy 1, .long), (cy 2, .boolean), (cy 3, .byte), (cy 4, .object "HissHorn$Text")] st s) (hJ : JX ad st) (x1 : Int32) (x2 : Int32) {u : SX} {r : Int64} {u' : SX} {H : Heap} {locs : List Loc} {ls : Array Slot} (h : fX2_toldBy_11 x1 x2 u = some (r, u')) (hP : va_P D vwCl (VX cy ad st u) H) (hS : va_S (Ax (AX ad) s.heap.size) s.heap H locs) (hl : lv_has ls 3 [(0, .ref (ad 11)), (1, .int x1), (2, .int x2)]) : W p l e rmX2_toldBy_11 s m args below meth c H locs 0 0 (MQ below (Ql D (VX cy ad st) (AX ad) s.heap.size r u') args s 0 0 (Ax (AX ad) s.heap.size)) (F0 m 0 ls []) := by
  unfold fX2_toldBy_11 at h
  refine lv_aload_n C.1 C.2.1 dX2_toldBy_0 rfl (lv_at hl 0 rfl) ?_
  refine gX_11_told C hX2_toldBy_11_X2 hK hP mX2_toldBy_11_1 dX2_toldBy_1 ?_
  refine lv_iload_n C.1 C.2.1 dX2_toldBy_4 rfl (lv_at hl 2 rfl) ?_
  refine lv_bipush (v := 8) C.1 C.2.1 dX2_toldBy_5 (by decide) ?_
  refine lv_imul C.1 C.2.1 dX2_toldBy_7 ?_
  refine lv_iload_n C.1 C.2.1 dX2_toldBy_8 rfl (lv_at hl 1 rfl) ?_
  refine lv_iadd C.1 C.2.1 dX2_toldBy_9 ?_
  obtain ⟨hg1, h⟩ := gd_some h
  refine lX_69 C hK hP hg1 dX2_toldBy_10 ?_
  cases h
  exact rt_l C hP hS dX2_toldBy_11
theorem metX2_toldBy_11 (l : Launch) (D : va_G) (cy : Nat → ClassId) (ad st : Nat → Nat) (hJ : JX ad st) (sz : Nat) (x1 : Int32) (x2 : Int32) {u : SX} {r : Int64} {u' : SX} (h : fX2_toldBy_11 x1 x2 u = some (r, u')) : Met l yX2_toldBy wsX2_toldBy rmX2_toldBy_11 (va_Pc [.ref (ad 11), .int x1, .int x2] (Px D [(cy 0, .int), (cy 1, .long), (cy 2, .boolean), (cy 3, .byte), (cy 4, .object "HissHorn$Text")] st (VX cy ad st) sz u)) (Ql D (VX cy ad st) (AX ad) sz r u') 0 0 (Ax (AX ad) sz) := by
  refine Met.ofW (cc := cX2_toldBy) (maxL := 3) (ret := (some .long)) (by decide) rfl ?_
  intro p e s m args below meth c s₁ B hml hv
  obtain ⟨rfl, hsz, hP, hK⟩ := hv
  subst hsz
  have C : Cx RX2 cX2_toldBy 3 (some .long) wsX2_toldBy p s m _ meth c := ⟨B.exec, B.bytes, hml, B.returns, findClass_of_methodNamed B.named, atoms_spec (ws := wsX2_toldBy) B.pre, B.notSynchronized⟩
  have hl := lv_entry ([.ref (ad 11), .int x1, .int x2]) (n := 3) (Nat.le_of_ble_eq_true rfl)
  rw [lg_entry_eq]
  exact wX2_toldBy_11 C hK hJ x1 x2 h hP va_S.rf hl

theorem zdX2_deliver_52 : (and (and (and (and (and (zk cX2_deliver 52 (.iinc 2 1) 3) (zk cX2_deliver 55 (.goto (-53)) 3)) (and (zk cX2_deliver 2 (.iload_n 2) 1) (zk cX2_deliver 3 (.aload_n 0) 1))) (and (and (zk cX2_deliver 4 (.getfield 88) 3) (zk cX2_deliver 7 (.if_icmp .ge 51) 3)) (and (zk cX2_deliver 58 (.return_) 1) (zk cX2_deliver 10 (.aload_n 0) 1)))) (and (and (and (zk cX2_deliver 11 (.getfield 22) 3) (zk cX2_deliver 14 (.iload_n 2) 1)) (and (zk cX2_deliver 15 (.iaload) 1) (zk cX2_deliver 16 (.iload_n 1) 1))) (and (and (zk cX2_deliver 17 (.if_icmp .ne 35) 3) (zk cX2_deliver 20 (.aload_n 0) 1)) (and (zk cX2_deliver 21 (.getfield 47) 3) (zk cX2_deliver 24 (.iload_n 1) 1))))) (and (and (and (and (zk cX2_deliver 25 (.bipush 8) 2) (zk cX2_deliver 27 (.imul) 1)) (and (zk cX2_deliver 28 (.aload_n 0) 1) (zk cX2_deliver 29 (.getfield 19) 3))) (and (and (zk cX2_deliver 32 (.iload_n 2) 1) (zk cX2_deliver 33 (.iaload) 1)) (and (zk cX2_deliver 34 (.iadd) 1) (zk cX2_deliver 35 (.dup2) 1)))) (and (and (and (zk cX2_deliver 36 (.laload) 1) (zk cX2_deliver 37 (.aload_n 0) 1)) (and (zk cX2_deliver 38 (.aload_n 0) 1) (zk cX2_deliver 39 (.getfield 15) 3))) (and (and (zk cX2_deliver 42 (.iload_n 2) 1) (zk cX2_deliver 43 (.iaload) 1)) (and (zk cX2_deliver 44 (.iload_n 1) 1) (zk cX2_deliver 45 (.iconst 1) 1)))))) = true := by decide +kernel
theorem dX2_deliver_52 : decode cX2_deliver 52 = .ok (.iinc 2 1, 3) := zk_of (zk_l (zk_l (zk_l (zk_l (zk_l zdX2_deliver_52)))))
theorem dX2_deliver_55 : decode cX2_deliver 55 = .ok (.goto (-53), 3) := zk_of (zk_r (zk_l (zk_l (zk_l (zk_l zdX2_deliver_52)))))
theorem dX2_deliver_2 : decode cX2_deliver 2 = .ok (.iload_n 2, 1) := zk_of (zk_l (zk_r (zk_l (zk_l (zk_l zdX2_deliver_52)))))
theorem dX2_deliver_3 : decode cX2_deliver 3 = .ok (.aload_n 0, 1) := zk_of (zk_r (zk_r (zk_l (zk_l (zk_l zdX2_deliver_52)))))
theorem dX2_deliver_4 : decode cX2_deliver 4 = .ok (.getfield 88, 3) := zk_of (zk_l (zk_l (zk_r (zk_l (zk_l zdX2_deliver_52)))))
theorem dX2_deliver_7 : decode cX2_deliver 7 = .ok (.if_icmp .ge 51, 3) := zk_of (zk_r (zk_l (zk_r (zk_l (zk_l zdX2_deliver_52)))))
theorem dX2_deliver_58 : decode cX2_deliver 58 = .ok (.return_, 1) := zk_of (zk_l (zk_r (zk_r (zk_l (zk_l zdX2_deliver_52)))))
theorem dX2_deliver_10 : decode cX2_deliver 10 = .ok (.aload_n 0, 1) := zk_of (zk_r (zk_r (zk_r (zk_l (zk_l zdX2_deliver_52)))))
theorem dX2_deliver_11 : decode cX2_deliver 11 = .ok (.getfield 22, 3) := zk_of (zk_l (zk_l (zk_l (zk_r (zk_l zdX2_deliver_52)))))
theorem dX2_deliver_14 : decode cX2_deliver 14 = .ok (.iload_n 2, 1) := zk_of (zk_r (zk_l (zk_l (zk_r (zk_l zdX2_deliver_52)))))
theorem dX2_deliver_15 : decode cX2_deliver 15 = .ok (.iaload, 1) := zk_of (zk_l (zk_r (zk_l (zk_r (zk_l zdX2_deliver_52)))))
theorem dX2_deliver_16 : decode cX2_deliver 16 = .ok (.iload_n 1, 1) := zk_of (zk_r (zk_r (zk_l (zk_r (zk_l zdX2_deliver_52)))))
theorem dX2_deliver_17 : decode cX2_deliver 17 = .ok (.if_icmp .ne 35, 3) := zk_of (zk_l (zk_l (zk_r (zk_r (zk_l zdX2_deliver_52)))))
theorem dX2_deliver_20 : decode cX2_deliver 20 = .ok (.aload_n 0, 1) := zk_of (zk_r (zk_l (zk_r (zk_r (zk_l zdX2_deliver_52)))))
theorem dX2_deliver_21 : decode cX2_deliver 21 = .ok (.getfield 47, 3) := zk_of (zk_l (zk_r (zk_r (zk_r (zk_l zdX2_deliver_52)))))
theorem dX2_deliver_24 : decode cX2_deliver 24 = .ok (.iload_n 1, 1) := zk_of (zk_r (zk_r (zk_r (zk_r (zk_l zdX2_deliver_52)))))
theorem dX2_deliver_25 : decode cX2_deliver 25 = .ok (.bipush 8, 2) := zk_of (zk_l (zk_l (zk_l (zk_l (zk_r zdX2_deliver_52)))))
theorem dX2_deliver_27 : decode cX2_deliver 27 = .ok (.imul, 1) := zk_of (zk_r (zk_l (zk_l (zk_l (zk_r zdX2_deliver_52)))))
theorem dX2_deliver_28 : decode cX2_deliver 28 = .ok (.aload_n 0, 1) := zk_of (zk_l (zk_r (zk_l (zk_l (zk_r zdX2_deliver_52)))))
theorem dX2_deliver_29 : decode cX2_deliver 29 = .ok (.getfield 19, 3) := zk_of (zk_r (zk_r (zk_l (zk_l (zk_r zdX2_deliver_52)))))
theorem dX2_deliver_32 : decode cX2_deliver 32 = .ok (.iload_n 2, 1) := zk_of (zk_l (zk_l (zk_r (zk_l (zk_r zdX2_deliver_52)))))
theorem dX2_deliver_33 : decode cX2_deliver 33 = .ok (.iaload, 1) := zk_of (zk_r (zk_l (zk_r (zk_l (zk_r zdX2_deliver_52)))))
theorem dX2_deliver_34 : decode cX2_deliver 34 = .ok (.iadd, 1) := zk_of (zk_l (zk_r (zk_r (zk_l (zk_r zdX2_deliver_52)))))
theorem dX2_deliver_35 : decode cX2_deliver 35 = .ok (.dup2, 1) := zk_of (zk_r (zk_r (zk_r (zk_l (zk_r zdX2_deliver_52)))))
theorem dX2_deliver_36 : decode cX2_deliver 36 = .ok (.laload, 1) := zk_of (zk_l (zk_l (zk_l (zk_r (zk_r zdX2_deliver_52)))))
theorem dX2_deliver_37 : decode cX2_deliver 37 = .ok (.aload_n 0, 1) := zk_of (zk_r (zk_l (zk_l (zk_r (zk_r zdX2_deliver_52)))))
theorem dX2_deliver_38 : decode cX2_deliver 38 = .ok (.aload_n 0, 1) := zk_of (zk_l (zk_r (zk_l (zk_r (zk_r zdX2_deliver_52)))))
theorem dX2_deliver_39 : decode cX2_deliver 39 = .ok (.getfield 15, 3) := zk_of (zk_r (zk_r (zk_l (zk_r (zk_r zdX2_deliver_52)))))
theorem dX2_deliver_42 : decode cX2_deliver 42 = .ok (.iload_n 2, 1) := zk_of (zk_l (zk_l (zk_r (zk_r (zk_r zdX2_deliver_52)))))
theorem dX2_deliver_43 : decode cX2_deliver 43 = .ok (.iaload, 1) := zk_of (zk_r (zk_l (zk_r (zk_r (zk_r zdX2_deliver_52)))))
theorem dX2_deliver_44 : decode cX2_deliver 44 = .ok (.iload_n 1, 1) := zk_of (zk_l (zk_r (zk_r (zk_r (zk_r zdX2_deliver_52)))))
theorem dX2_deliver_45 : decode cX2_deliver 45 = .ok (.iconst 1, 1) := zk_of (zk_r (zk_r (zk_r (zk_r (zk_r zdX2_deliver_52)))))
theorem zdX2_deliver_46 : (and (and (and (zk cX2_deliver 46 (.isub) 1) (zk cX2_deliver 47 (.invokevirtual 91) 3)) (zk cX2_deliver 50 (.lor) 1)) (and (and (zk cX2_deliver 51 (.lastore) 1) (zk cX2_deliver 0 (.iconst 0) 1)) (zk cX2_deliver 1 (.istore_n 2) 1))) = true := by decide +kernel
theorem dX2_deliver_46 : decode cX2_deliver 46 = .ok (.isub, 1) := zk_of (zk_l (zk_l (zk_l zdX2_deliver_46)))
theorem dX2_deliver_47 : decode cX2_deliver 47 = .ok (.invokevirtual 91, 3) := zk_of (zk_r (zk_l (zk_l zdX2_deliver_46)))
theorem dX2_deliver_50 : decode cX2_deliver 50 = .ok (.lor, 1) := zk_of (zk_r (zk_l zdX2_deliver_46))
theorem dX2_deliver_51 : decode cX2_deliver 51 = .ok (.lastore, 1) := zk_of (zk_l (zk_l (zk_r zdX2_deliver_46)))
theorem dX2_deliver_0 : decode cX2_deliver 0 = .ok (.iconst 0, 1) := zk_of (zk_r (zk_l (zk_r zdX2_deliver_46)))
theorem dX2_deliver_1 : decode cX2_deliver 1 = .ok (.istore_n 2, 1) := zk_of (zk_r (zk_r zdX2_deliver_46))
set_option maxRecDepth 20000 in
theorem ggX2_deliver_X2_knownBy : GoodIn wsX2_deliver wsX2_knownBy := ggi (fun w h => List.mem_cons_of_mem _ (List.mem_append_left _ (List.mem_append_right _ h))) gs_X2_knownBy
set_option maxRecDepth 20000 in
theorem gX2_deliver_X2_knownBy : GoodIn wsX2_deliver (wsV RX2 91 RX2 yX2_knownBy wsX2_knownBy) := goodIn_app (goodIn_of _ (by decide +kernel)) ggX2_deliver_X2_knownBy
/-- HissHorn$Houses.deliver(I)V of cell 11 -/
def rmX2_deliver_11 : Room := { frames := 1, cells := 0, slots := 0, locals := 22 }
theorem hX2_deliver_11_X2 : ∀ w ∈ u_ws RX2 TX2 18, w ∈ wsX2_deliver := fun w h => (List.mem_cons_of_mem _ (List.mem_append_right _ h))
theorem mX2_deliver_11_1 : Cond.fieldLink RX2 88 "HissHorn$Houses" "letters" "I" ∈ wsX2_deliver := (List.mem_cons_of_mem _ (List.mem_append_left _ (List.mem_append_left _ (List.mem_of_getElem? (i := 4) rfl))))
theorem mX2_deliver_11_2 : Cond.fieldLink RX2 22 "HissHorn$Houses" "letterDay" "[I" ∈ wsX2_deliver := (List.mem_cons_of_mem _ (List.mem_append_left _ (List.mem_append_left _ (List.mem_of_getElem? (i := 5) rfl))))
def GX2_deliver_11_52 (k2 : Int32 → Int32 → SX → Option (Int32 × SX)) (z1 : Int32) (z2 : Int32) (u : SX) : Option (Int32 × SX) := (k2 z1 (z2 + 1) u)
theorem mX2_deliver_11_3 : Cond.fieldLink RX2 47 "HissHorn$Houses" "known" "[J" ∈ wsX2_deliver := (List.mem_cons_of_mem _ (List.mem_append_left _ (List.mem_append_left _ (List.mem_of_getElem? (i := 6) rfl))))
theorem mX2_deliver_11_4 : Cond.fieldLink RX2 19 "HissHorn$Houses" "letterTo" "[I" ∈ wsX2_deliver := (List.mem_cons_of_mem _ (List.mem_append_left _ (List.mem_append_left _ (List.mem_of_getElem? (i := 7) rfl))))
theorem mX2_deliver_11_5 : Cond.fieldLink RX2 15 "HissHorn$Houses" "letterFrom" "[I" ∈ wsX2_deliver := (List.mem_cons_of_mem _ (List.mem_append_left _ (List.mem_append_left _ (List.mem_of_getElem? (i := 8) rfl))))
def LX2_deliver_11_2  : Nat → Int32 → Int32 → SX → Option (Int32 × SX)
  | 0, _, _, _ => none
  | n + 1, z1, z2, u => (if (u.1 38) ≤ z2 then (some (0, u)) else (gd (inb z2 60) (if (u.2.1 62 z2.toNatClampNeg) = z1 then (gd (inb z2 60) (gd (inb ((z1 * 8) + (u.2.1 61 z2.toNatClampNeg)) 968) (gd (inb z2 60) ((fX2_knownBy_11 (u.2.1 60 z2.toNatClampNeg) (z1 - 1) u).bind fun q => match q with | (r5, u6) => (gd (inb ((z1 * 8) + (u.2.1 61 z2.toNatClampNeg)) 968) (lt (sB u6 70 (vp_updL (u6.2.2.2.1 70) ((z1 * 8) + (u.2.1 61 z2.toNatClampNeg)).toNatClampNeg ((u.2.2.2.1 70 ((z1 * 8) + (u.2.1 61 z2.toNatClampNeg)).toNatClampNeg) ||| r5))) fun u9 => (GX2_deliver_11_52 (LX2_deliver_11_2 n) z1 z2 u9))))))) else (GX2_deliver_11_52 (LX2_deliver_11_2 n) z1 z2 u))))
def fX2_deliver_11 (x1 : Int32) (u : SX) : Option (Int32 × SX) := (LX2_deliver_11_2  5000 x1 0 u)
set_option maxHeartbeats 4000000 in
set_option maxRecDepth 100000 in
theorem wGX2_deliver_11_52 {p : Program} {l : Launch} {e : Env} {s : State} {m : MethodId} {args : Array Value} {below : List Frame} {meth : Method} {c : Code} {D : va_G} {cy : Nat → ClassId} {ad st : Nat → Nat} (C : Cx RX2 cX2_deliver 3 none wsX2_deliver p s m args meth c) (hK : Ky D [(cy 0, .int), (cy 1, .long), (cy 2, .boolean), (cy 3, .byte), (cy 4, .object "HissHorn$Text")] st s) (hJ : JX ad st) {r : Int32} {u' : SX} {k2 : Int32 → Int32 → SX → Option (Int32 × SX)} (hk2 : ∀ (z1 : Int32) (z2 : Int32) (u : SX) (H : Heap) (locs : List Loc) (ls : Array Slot), k2 z1 z2 u = some (r, u') → va_P D vwCl (VX cy ad st u) H → va_S (Ax (AX ad) s.heap.size) s.heap H locs → lv_has ls 3 [(0, .ref (ad 11)), (1, .int z1), (2, .int z2)] → W p l e rmX2_deliver_11 s m args below meth c H locs 0 0 (MQ below (Qv D (VX cy ad st) (AX ad) s.heap.size r u') args s 0 0 (Ax (AX ad) s.heap.size)) (F0 m 2 ls [])) (z1 : Int32) (z2 : Int32) (u : SX) (H : Heap) (locs : List Loc) (ls : Array Slot) (h : GX2_deliver_11_52 k2 z1 z2 u = some (r, u')) (hP : va_P D vwCl (VX cy ad st u) H) (hS : va_S (Ax (AX ad) s.heap.size) s.heap H locs) (hl : lv_has ls 3 [(0, .ref (ad 11)), (1, .int z1), (2, .int z2)]) : W p l e rmX2_deliver_11 s m args below meth c H locs 0 0 (MQ below (Qv D (VX cy ad st) (AX ad) s.heap.size r u') args s 0 0 (Ax (AX ad) s.heap.size)) (F0 m 52 ls []) := by
  unfold GX2_deliver_11_52 at h
  refine lv_iinc (v := z2 + 1) (lv' := [(2, .int (z2 + 1)), (0, .ref (ad 11)), (1, .int z1)]) C.1 C.2.1 dX2_deliver_52 hl (k := 2) rfl rfl (by decide) rfl (fun ls hl => ?_)
  replace hl := lv_sub (l' := [(0, .ref (ad 11)), (1, .int z1), (2, .int (z2 + 1))]) hl [1, 2, 0] rfl
  refine lv_goto (tgt := 2) C.1 C.2.1 dX2_deliver_55 (by decide) ?_
  exact hk2 _ _ _ _ _ _ h hP hS hl
set_option maxHeartbeats 4000000 in
set_option maxRecDepth 100000 in
theorem wLX2_deliver_11_2 {p : Program} {l : Launch} {e : Env} {s : State} {m : MethodId} {args : Array Value} {below : List Frame} {meth : Method} {c : Code} {D : va_G} {cy : Nat → ClassId} {ad st : Nat → Nat} (C : Cx RX2 cX2_deliver 3 none wsX2_deliver p s m args meth c) (hK : Ky D [(cy 0, .int), (cy 1, .long), (cy 2, .boolean), (cy 3, .byte), (cy 4, .object "HissHorn$Text")] st s) (hJ : JX ad st) {r : Int32} {u' : SX}   : ∀ (n : Nat) (z1 : Int32) (z2 : Int32) (u : SX) (H : Heap) (locs : List Loc) (ls : Array Slot), LX2_deliver_11_2  n z1 z2 u = some (r, u') → va_P D vwCl (VX cy ad st u) H → va_S (Ax (AX ad) s.heap.size) s.heap H locs → lv_has ls 3 [(0, .ref (ad 11)), (1, .int z1), (2, .int z2)] → W p l e rmX2_deliver_11 s m args below meth c H locs 0 0 (MQ below (Qv D (VX cy ad st) (AX ad) s.heap.size r u') args s 0 0 (Ax (AX ad) s.heap.size)) (F0 m 2 ls []) := by
  intro n
  induction n with
  | zero =>
    intro z1 z2 u H locs ls h
    exact absurd h (by intro q; cases q)
  | succ n ih =>
    intro z1 z2 u H locs ls h hP hS hl
    rw [LX2_deliver_11_2] at h
    refine lv_iload_n C.1 C.2.1 dX2_deliver_2 rfl (lv_at hl 2 rfl) ?_
    refine lv_aload_n C.1 C.2.1 dX2_deliver_3 rfl (lv_at hl 0 rfl) ?_
    refine gX_11_letters C hX2_deliver_11_X2 hK hP mX2_deliver_11_1 dX2_deliver_4 ?_
    refine lv_icmp_ge (tgt := 58) C.1 C.2.1 dX2_deliver_7 (by decide) (fun c7 => ?_) (fun c7 => ?_)
    · rw [if_pos c7] at h
      cases h
      exact rt_v C hP hS dX2_deliver_58
    · rw [if_neg c7] at h
      refine lv_aload_n C.1 C.2.1 dX2_deliver_10 rfl (lv_at hl 0 rfl) ?_
      refine gX_11_letterDay C hX2_deliver_11_X2 hK hP mX2_deliver_11_2 dX2_deliver_11 ?_
      refine lv_iload_n C.1 C.2.1 dX2_deliver_14 rfl (lv_at hl 2 rfl) ?_
      obtain ⟨hg1, h⟩ := gd_some h
      refine lX_62 C hK hP hg1 dX2_deliver_15 ?_
      refine lv_iload_n C.1 C.2.1 dX2_deliver_16 rfl (lv_at hl 1 rfl) ?_
      refine lv_icmp_ne (tgt := 52) C.1 C.2.1 dX2_deliver_17 (by decide) (fun c17 => ?_) (fun c17 => ?_)
      · rw [if_neg c17] at h
        exact wGX2_deliver_11_52 C hK hJ ih _ _ _ _ _ _ h hP hS hl
      · rw [if_pos c17] at h
        refine lv_aload_n C.1 C.2.1 dX2_deliver_20 rfl (lv_at hl 0 rfl) ?_
        refine gX_11_known C hX2_deliver_11_X2 hK hP mX2_deliver_11_3 dX2_deliver_21 ?_
        refine lv_iload_n C.1 C.2.1 dX2_deliver_24 rfl (lv_at hl 1 rfl) ?_
        refine lv_bipush (v := 8) C.1 C.2.1 dX2_deliver_25 (by decide) ?_
        refine lv_imul C.1 C.2.1 dX2_deliver_27 ?_
        refine lv_aload_n C.1 C.2.1 dX2_deliver_28 rfl (lv_at hl 0 rfl) ?_
        refine gX_11_letterTo C hX2_deliver_11_X2 hK hP mX2_deliver_11_4 dX2_deliver_29 ?_
        refine lv_iload_n C.1 C.2.1 dX2_deliver_32 rfl (lv_at hl 2 rfl) ?_
        obtain ⟨hg2, h⟩ := gd_some h
        refine lX_61 C hK hP hg2 dX2_deliver_33 ?_
        refine lv_iadd C.1 C.2.1 dX2_deliver_34 ?_
        refine lv_dup2_11 C.1 C.2.1 dX2_deliver_35 rfl rfl ?_
        obtain ⟨hg3, h⟩ := gd_some h
        refine lX_70 C hK hP hg3 dX2_deliver_36 ?_
        refine lv_aload_n C.1 C.2.1 dX2_deliver_37 rfl (lv_at hl 0 rfl) ?_
        refine lv_aload_n C.1 C.2.1 dX2_deliver_38 rfl (lv_at hl 0 rfl) ?_
        refine gX_11_letterFrom C hX2_deliver_11_X2 hK hP mX2_deliver_11_5 dX2_deliver_39 ?_
        refine lv_iload_n C.1 C.2.1 dX2_deliver_42 rfl (lv_at hl 2 rfl) ?_
        obtain ⟨hg4, h⟩ := gd_some h
        refine lX_60 C hK hP hg4 dX2_deliver_43 ?_
        refine lv_iload_n C.1 C.2.1 dX2_deliver_44 rfl (lv_at hl 1 rfl) ?_
        refine lv_iconst (v := 1) C.1 C.2.1 dX2_deliver_45 (by decide) ?_
        refine lv_isub C.1 C.2.1 dX2_deliver_46 ?_
        obtain ⟨⟨r5, u6⟩, hc7, h⟩ := bd_some h
        try dsimp only at h
        refine cg_l (As := [.int (u.2.1 60 z2.toNatClampNeg), .int (z1 - 1)]) (rest := [.long (u.2.2.2.1 70 ((z1 * 8) + (u.2.1 61 z2.toNatClampNeg)).toNatClampNeg), .int ((z1 * 8) + (u.2.1 61 z2.toNatClampNeg)), .ref (ad 70)]) (AX_ge hJ) C hK hP hS (metX2_knownBy_11 l D cy ad st hJ _ (u.2.1 60 z2.toNatClampNeg) (z1 - 1) hc7) (cwV 2 C.2.2.2.2.2.1 gX2_deliver_X2_knownBy rfl rfl rfl (by decide +kernel) ⟨(Nat.le_of_ble_eq_true rfl), (Nat.le_of_ble_eq_true rfl)⟩) 11 2 rfl rfl rfl hl.1 rfl (Nat.le_of_ble_eq_true rfl) dX2_deliver_47 ⟨Nat.zero_le _, Nat.zero_le _⟩ (fun H locs hP hS => ?_)
        refine lv_lor C.1 C.2.1 dX2_deliver_50 ?_
        obtain ⟨hg8, h⟩ := gd_some h
        refine tX_70 C hK hP hJ hS hg8 dX2_deliver_51 (fun H locs hP hS => ?_)
        obtain ⟨u9, hu10, h⟩ := lt_some h
        rw [← hu10] at hP
        exact wGX2_deliver_11_52 C hK hJ ih _ _ _ _ _ _ h hP hS hl
set_option maxHeartbeats 4000000 in
set_option maxRecDepth 100000 in
theorem wX2_deliver_11 {p : Program} {l : Launch} {e : Env} {s : State} {m : MethodId} {args : Array Value} {below : List Frame} {meth : Method} {c : Code} {D : va_G} {cy : Nat → ClassId} {ad st : Nat → Nat} (C : Cx RX2 cX2_deliver 3 none wsX2_deliver p s m args meth c) (hK : Ky D [(cy 0, .int), (cy 1, .long), (cy 2, .boolean), (cy 3, .byte), (cy 4, .object "HissHorn$Text")] st s) (hJ : JX ad st) (x1 : Int32) {u : SX} {r : Int32} {u' : SX} {H : Heap} {locs : List Loc} {ls : Array Slot} (h : fX2_deliver_11 x1 u = some (r, u')) (hP : va_P D vwCl (VX cy ad st u) H) (hS : va_S (Ax (AX ad) s.heap.size) s.heap H locs) (hl : lv_has ls 3 [(0, .ref (ad 11)), (1, .int x1)]) : W p l e rmX2_deliver_11 s m args below meth c H locs 0 0 (MQ below (Qv D (VX cy ad st) (AX ad) s.heap.size r u') args s 0 0 (Ax (AX ad) s.heap.size)) (F0 m 0 ls []) := by
  unfold fX2_deliver_11 at h
  refine lv_iconst (v := 0) C.1 C.2.1 dX2_deliver_0 (by decide) ?_
  refine lv_istore_n (lv' := [(2, .int 0), (0, .ref (ad 11)), (1, .int x1)]) C.1 C.2.1 dX2_deliver_1 rfl hl (by decide) rfl (fun ls hl => ?_)
  replace hl := lv_sub (l' := [(0, .ref (ad 11)), (1, .int x1), (2, .int 0)]) hl [1, 2, 0] rfl
  exact wLX2_deliver_11_2 C hK hJ  5000 _ _ _ _ _ _ h hP hS hl
theorem metX2_deliver_11 (l : Launch) (D : va_G) (cy : Nat → ClassId) (ad st : Nat → Nat) (hJ : JX ad st) (sz : Nat) (x1 : Int32) {u : SX} {r : Int32} {u' : SX} (h : fX2_deliver_11 x1 u = some (r, u')) : Met l yX2_deliver wsX2_deliver rmX2_deliver_11 (va_Pc [.ref (ad 11), .int x1] (Px D [(cy 0, .int), (cy 1, .long), (cy 2, .boolean), (cy 3, .byte), (cy 4, .object "HissHorn$Text")] st (VX cy ad st) sz u)) (Qv D (VX cy ad st) (AX ad) sz r u') 0 0 (Ax (AX ad) sz) := by
  refine Met.ofW (cc := cX2_deliver) (maxL := 3) (ret := none) (by decide) rfl ?_
  intro p e s m args below meth c s₁ B hml hv
  obtain ⟨rfl, hsz, hP, hK⟩ := hv
  subst hsz
  have C : Cx RX2 cX2_deliver 3 none wsX2_deliver p s m _ meth c := ⟨B.exec, B.bytes, hml, B.returns, findClass_of_methodNamed B.named, atoms_spec (ws := wsX2_deliver) B.pre, B.notSynchronized⟩
  have hl := lv_entry ([.ref (ad 11), .int x1]) (n := 3) (Nat.le_of_ble_eq_true rfl)
  rw [lg_entry_eq]
  exact wX2_deliver_11 C hK hJ x1 h hP va_S.rf hl

theorem zdX2_settle_12 : (and (and (and (and (and (zk cX2_settle 12 (.iload_n 3) 1) (zk cX2_settle 13 (.bipush 8) 2)) (and (zk cX2_settle 15 (.if_icmp .ge 35) 3) (zk cX2_settle 18 (.aload_n 0) 1))) (and (and (zk cX2_settle 19 (.getfield 47) 3) (zk cX2_settle 22 (.iload_n 2) 1)) (and (zk cX2_settle 23 (.bipush 8) 2) (zk cX2_settle 25 (.imul) 1)))) (and (and (and (zk cX2_settle 26 (.iload_n 3) 1) (zk cX2_settle 27 (.iadd) 1)) (and (zk cX2_settle 28 (.aload_n 0) 1) (zk cX2_settle 29 (.iload_n 3) 1))) (and (and (zk cX2_settle 30 (.iload_n 2) 1) (zk cX2_settle 31 (.iconst 1) 1)) (and (zk cX2_settle 32 (.isub) 1) (zk cX2_settle 33 (.invokevirtual 91) 3))))) (and (and (and (and (zk cX2_settle 36 (.aload_n 0) 1) (zk cX2_settle 37 (.iload_n 3) 1)) (and (zk cX2_settle 38 (.iload_n 2) 1) (zk cX2_settle 39 (.invokevirtual 95) 3))) (and (and (zk cX2_settle 42 (.lor) 1) (zk cX2_settle 43 (.lastore) 1)) (and (zk cX2_settle 44 (.iinc 3 1) 3) (zk cX2_settle 47 (.goto (-35)) 3)))) (and (and (and (zk cX2_settle 64 (.iinc 2 1) 3) (zk cX2_settle 67 (.goto (-62)) 3)) (and (zk cX2_settle 50 (.aload_n 0) 1) (zk cX2_settle 51 (.getfield 9) 3))) (and (and (zk cX2_settle 54 (.iload_n 2) 1) (zk cX2_settle 55 (.baload) 1)) (and (zk cX2_settle 56 (.ifCond .eq 8) 3) (zk cX2_settle 59 (.aload_n 0) 1)))))) = true := by decide +kernel
theorem dX2_settle_12 : decode cX2_settle 12 = .ok (.iload_n 3, 1) := zk_of (zk_l (zk_l (zk_l (zk_l (zk_l zdX2_settle_12)))))
theorem dX2_settle_13 : decode cX2_settle 13 = .ok (.bipush 8, 2) := zk_of (zk_r (zk_l (zk_l (zk_l (zk_l zdX2_settle_12)))))
theorem dX2_settle_15 : decode cX2_settle 15 = .ok (.if_icmp .ge 35, 3) := zk_of (zk_l (zk_r (zk_l (zk_l (zk_l zdX2_settle_12)))))
theorem dX2_settle_18 : decode cX2_settle 18 = .ok (.aload_n 0, 1) := zk_of (zk_r (zk_r (zk_l (zk_l (zk_l zdX2_settle_12)))))
theorem dX2_settle_19 : decode cX2_settle 19 = .ok (.getfield 47, 3) := zk_of (zk_l (zk_l (zk_r (zk_l (zk_l zdX2_settle_12)))))
theorem dX2_settle_22 : decode cX2_settle 22 = .ok (.iload_n 2, 1) := zk_of (zk_r (zk_l (zk_r (zk_l (zk_l zdX2_settle_12)))))
theorem dX2_settle_23 : decode cX2_settle 23 = .ok (.bipush 8, 2) := zk_of (zk_l (zk_r (zk_r (zk_l (zk_l zdX2_settle_12)))))
theorem dX2_settle_25 : decode cX2_settle 25 = .ok (.imul, 1) := zk_of (zk_r (zk_r (zk_r (zk_l (zk_l zdX2_settle_12)))))
theorem dX2_settle_26 : decode cX2_settle 26 = .ok (.iload_n 3, 1) := zk_of (zk_l (zk_l (zk_l (zk_r (zk_l zdX2_settle_12)))))
theorem dX2_settle_27 : decode cX2_settle 27 = .ok (.iadd, 1) := zk_of (zk_r (zk_l (zk_l (zk_r (zk_l zdX2_settle_12)))))
theorem dX2_settle_28 : decode cX2_settle 28 = .ok (.aload_n 0, 1) := zk_of (zk_l (zk_r (zk_l (zk_r (zk_l zdX2_settle_12)))))
theorem dX2_settle_29 : decode cX2_settle 29 = .ok (.iload_n 3, 1) := zk_of (zk_r (zk_r (zk_l (zk_r (zk_l zdX2_settle_12)))))
theorem dX2_settle_30 : decode cX2_settle 30 = .ok (.iload_n 2, 1) := zk_of (zk_l (zk_l (zk_r (zk_r (zk_l zdX2_settle_12)))))
theorem dX2_settle_31 : decode cX2_settle 31 = .ok (.iconst 1, 1) := zk_of (zk_r (zk_l (zk_r (zk_r (zk_l zdX2_settle_12)))))
theorem dX2_settle_32 : decode cX2_settle 32 = .ok (.isub, 1) := zk_of (zk_l (zk_r (zk_r (zk_r (zk_l zdX2_settle_12)))))
theorem dX2_settle_33 : decode cX2_settle 33 = .ok (.invokevirtual 91, 3) := zk_of (zk_r (zk_r (zk_r (zk_r (zk_l zdX2_settle_12)))))
theorem dX2_settle_36 : decode cX2_settle 36 = .ok (.aload_n 0, 1) := zk_of (zk_l (zk_l (zk_l (zk_l (zk_r zdX2_settle_12)))))
theorem dX2_settle_37 : decode cX2_settle 37 = .ok (.iload_n 3, 1) := zk_of (zk_r (zk_l (zk_l (zk_l (zk_r zdX2_settle_12)))))
theorem dX2_settle_38 : decode cX2_settle 38 = .ok (.iload_n 2, 1) := zk_of (zk_l (zk_r (zk_l (zk_l (zk_r zdX2_settle_12)))))
theorem dX2_settle_39 : decode cX2_settle 39 = .ok (.invokevirtual 95, 3) := zk_of (zk_r (zk_r (zk_l (zk_l (zk_r zdX2_settle_12)))))
theorem dX2_settle_42 : decode cX2_settle 42 = .ok (.lor, 1) := zk_of (zk_l (zk_l (zk_r (zk_l (zk_r zdX2_settle_12)))))
theorem dX2_settle_43 : decode cX2_settle 43 = .ok (.lastore, 1) := zk_of (zk_r (zk_l (zk_r (zk_l (zk_r zdX2_settle_12)))))
theorem dX2_settle_44 : decode cX2_settle 44 = .ok (.iinc 3 1, 3) := zk_of (zk_l (zk_r (zk_r (zk_l (zk_r zdX2_settle_12)))))
theorem dX2_settle_47 : decode cX2_settle 47 = .ok (.goto (-35), 3) := zk_of (zk_r (zk_r (zk_r (zk_l (zk_r zdX2_settle_12)))))
theorem dX2_settle_64 : decode cX2_settle 64 = .ok (.iinc 2 1, 3) := zk_of (zk_l (zk_l (zk_l (zk_r (zk_r zdX2_settle_12)))))
theorem dX2_settle_67 : decode cX2_settle 67 = .ok (.goto (-62), 3) := zk_of (zk_r (zk_l (zk_l (zk_r (zk_r zdX2_settle_12)))))
theorem dX2_settle_50 : decode cX2_settle 50 = .ok (.aload_n 0, 1) := zk_of (zk_l (zk_r (zk_l (zk_r (zk_r zdX2_settle_12)))))
theorem dX2_settle_51 : decode cX2_settle 51 = .ok (.getfield 9, 3) := zk_of (zk_r (zk_r (zk_l (zk_r (zk_r zdX2_settle_12)))))
theorem dX2_settle_54 : decode cX2_settle 54 = .ok (.iload_n 2, 1) := zk_of (zk_l (zk_l (zk_r (zk_r (zk_r zdX2_settle_12)))))
theorem dX2_settle_55 : decode cX2_settle 55 = .ok (.baload, 1) := zk_of (zk_r (zk_l (zk_r (zk_r (zk_r zdX2_settle_12)))))
theorem dX2_settle_56 : decode cX2_settle 56 = .ok (.ifCond .eq 8, 3) := zk_of (zk_l (zk_r (zk_r (zk_r (zk_r zdX2_settle_12)))))
theorem dX2_settle_59 : decode cX2_settle 59 = .ok (.aload_n 0, 1) := zk_of (zk_r (zk_r (zk_r (zk_r (zk_r zdX2_settle_12)))))
set_option maxRecDepth 20000 in
theorem ggX2_settle_X2_knownBy : GoodIn wsX2_settle wsX2_knownBy := ggi (fun w h => List.mem_cons_of_mem _ (List.mem_append_left _ (List.mem_append_right _ (List.mem_append_left _ h)))) gs_X2_knownBy
set_option maxRecDepth 20000 in
theorem gX2_settle_X2_knownBy : GoodIn wsX2_settle (wsV RX2 91 RX2 yX2_knownBy wsX2_knownBy) := goodIn_app (goodIn_of _ (by decide +kernel)) ggX2_settle_X2_knownBy
set_option maxRecDepth 20000 in
theorem ggX2_settle_X2_toldBy : GoodIn wsX2_settle wsX2_toldBy := ggi (fun w h => List.mem_cons_of_mem _ (List.mem_append_left _ (List.mem_append_right _ (List.mem_append_right _ (List.mem_append_left _ h))))) gs_X2_toldBy
set_option maxRecDepth 20000 in
theorem gX2_settle_X2_toldBy : GoodIn wsX2_settle (wsV RX2 95 RX2 yX2_toldBy wsX2_toldBy) := goodIn_app (goodIn_of _ (by decide +kernel)) ggX2_settle_X2_toldBy
theorem zdX2_settle_60 : (and (and (and (and (and (zk cX2_settle 60 (.iload_n 2) 1) (zk cX2_settle 61 (.invokevirtual 98) 3)) (zk cX2_settle 5 (.iload_n 2) 1)) (and (zk cX2_settle 6 (.iload_n 1) 1) (zk cX2_settle 7 (.if_icmp .gt 63) 3))) (and (and (and (zk cX2_settle 10 (.iconst 0) 1) (zk cX2_settle 11 (.istore_n 3) 1)) (zk cX2_settle 70 (.aload_n 0) 1)) (and (zk cX2_settle 71 (.aload_n 0) 1) (zk cX2_settle 72 (.getfield 79) 3)))) (and (and (and (and (zk cX2_settle 75 (.iload_n 1) 1) (zk cX2_settle 76 (.iconst 1) 1)) (zk cX2_settle 77 (.iadd) 1)) (and (zk cX2_settle 78 (.invokestatic 102) 3) (zk cX2_settle 81 (.putfield 79) 3))) (and (and (zk cX2_settle 84 (.return_) 1) (zk cX2_settle 0 (.aload_n 0) 1)) (and (zk cX2_settle 1 (.getfield 79) 3) (zk cX2_settle 4 (.istore_n 2) 1))))) = true := by decide +kernel
theorem dX2_settle_60 : decode cX2_settle 60 = .ok (.iload_n 2, 1) := zk_of (zk_l (zk_l (zk_l (zk_l (zk_l zdX2_settle_60)))))
theorem dX2_settle_61 : decode cX2_settle 61 = .ok (.invokevirtual 98, 3) := zk_of (zk_r (zk_l (zk_l (zk_l (zk_l zdX2_settle_60)))))
theorem dX2_settle_5 : decode cX2_settle 5 = .ok (.iload_n 2, 1) := zk_of (zk_r (zk_l (zk_l (zk_l zdX2_settle_60))))
theorem dX2_settle_6 : decode cX2_settle 6 = .ok (.iload_n 1, 1) := zk_of (zk_l (zk_r (zk_l (zk_l zdX2_settle_60))))
theorem dX2_settle_7 : decode cX2_settle 7 = .ok (.if_icmp .gt 63, 3) := zk_of (zk_r (zk_r (zk_l (zk_l zdX2_settle_60))))
theorem dX2_settle_10 : decode cX2_settle 10 = .ok (.iconst 0, 1) := zk_of (zk_l (zk_l (zk_l (zk_r (zk_l zdX2_settle_60)))))
theorem dX2_settle_11 : decode cX2_settle 11 = .ok (.istore_n 3, 1) := zk_of (zk_r (zk_l (zk_l (zk_r (zk_l zdX2_settle_60)))))
theorem dX2_settle_70 : decode cX2_settle 70 = .ok (.aload_n 0, 1) := zk_of (zk_r (zk_l (zk_r (zk_l zdX2_settle_60))))
theorem dX2_settle_71 : decode cX2_settle 71 = .ok (.aload_n 0, 1) := zk_of (zk_l (zk_r (zk_r (zk_l zdX2_settle_60))))
theorem dX2_settle_72 : decode cX2_settle 72 = .ok (.getfield 79, 3) := zk_of (zk_r (zk_r (zk_r (zk_l zdX2_settle_60))))
theorem dX2_settle_75 : decode cX2_settle 75 = .ok (.iload_n 1, 1) := zk_of (zk_l (zk_l (zk_l (zk_l (zk_r zdX2_settle_60)))))
theorem dX2_settle_76 : decode cX2_settle 76 = .ok (.iconst 1, 1) := zk_of (zk_r (zk_l (zk_l (zk_l (zk_r zdX2_settle_60)))))
theorem dX2_settle_77 : decode cX2_settle 77 = .ok (.iadd, 1) := zk_of (zk_r (zk_l (zk_l (zk_r zdX2_settle_60))))
theorem dX2_settle_78 : decode cX2_settle 78 = .ok (.invokestatic 102, 3) := zk_of (zk_l (zk_r (zk_l (zk_r zdX2_settle_60))))
theorem dX2_settle_81 : decode cX2_settle 81 = .ok (.putfield 79, 3) := zk_of (zk_r (zk_r (zk_l (zk_r zdX2_settle_60))))
theorem dX2_settle_84 : decode cX2_settle 84 = .ok (.return_, 1) := zk_of (zk_l (zk_l (zk_r (zk_r zdX2_settle_60))))
theorem dX2_settle_0 : decode cX2_settle 0 = .ok (.aload_n 0, 1) := zk_of (zk_r (zk_l (zk_r (zk_r zdX2_settle_60))))
theorem dX2_settle_1 : decode cX2_settle 1 = .ok (.getfield 79, 3) := zk_of (zk_l (zk_r (zk_r (zk_r zdX2_settle_60))))
theorem dX2_settle_4 : decode cX2_settle 4 = .ok (.istore_n 2, 1) := zk_of (zk_r (zk_r (zk_r (zk_r zdX2_settle_60))))
set_option maxRecDepth 20000 in
theorem ggX2_settle_X2_deliver : GoodIn wsX2_settle wsX2_deliver := ggi (fun w h => List.mem_cons_of_mem _ (List.mem_append_left _ (List.mem_append_right _ (List.mem_append_right _ (List.mem_append_right _ h))))) gs_X2_deliver
set_option maxRecDepth 20000 in
theorem gX2_settle_X2_deliver : GoodIn wsX2_settle (wsV RX2 98 RX2 yX2_deliver wsX2_deliver) := goodIn_app (goodIn_of _ (by decide +kernel)) ggX2_settle_X2_deliver
/-- HissHorn$Houses.settle(I)V of cell 11 -/
def rmX2_settle_11 : Room := { frames := 2, cells := 0, slots := 0, locals := 44 }
theorem hX2_settle_11_X2 : ∀ w ∈ u_ws RX2 TX2 18, w ∈ wsX2_settle := fun w h => (List.mem_cons_of_mem _ (List.mem_append_right _ h))
theorem mX2_settle_11_1 : Cond.fieldLink RX2 79 "HissHorn$Houses" "settled" "I" ∈ wsX2_settle := (List.mem_cons_of_mem _ (List.mem_append_left _ (List.mem_append_left _ (List.mem_of_getElem? (i := 10) rfl))))
theorem mX2_settle_11_2 : Cond.fieldLink RX2 47 "HissHorn$Houses" "known" "[J" ∈ wsX2_settle := (List.mem_cons_of_mem _ (List.mem_append_left _ (List.mem_append_left _ (List.mem_of_getElem? (i := 11) rfl))))
def LX2_settle_11_12 (k50 : Int32 → Int32 → SX → Option (Int32 × SX)) : Nat → Int32 → Int32 → Int32 → SX → Option (Int32 × SX)
  | 0, _, _, _, _ => none
  | n + 1, z1, z2, z3, u => (if 8 ≤ z3 then (k50 z1 z2 u) else ((fX2_knownBy_11 z3 (z2 - 1) u).bind fun q => match q with | (r3, u4) => ((fX2_toldBy_11 z3 z2 u4).bind fun q => match q with | (r6, u7) => (gd (inb ((z2 * 8) + z3) 968) (lt (sB u7 70 (vp_updL (u7.2.2.2.1 70) ((z2 * 8) + z3).toNatClampNeg (r3 ||| r6))) fun u10 => ((LX2_settle_11_12 k50 n) z1 z2 (z3 + 1) u10))))))
theorem mX2_settle_11_3 : Cond.fieldLink RX2 9 "HissHorn$Houses" "busy" "[Z" ∈ wsX2_settle := (List.mem_cons_of_mem _ (List.mem_append_left _ (List.mem_append_left _ (List.mem_of_getElem? (i := 12) rfl))))
def GX2_settle_11_64 (k5 : Int32 → Int32 → SX → Option (Int32 × SX)) (z1 : Int32) (z2 : Int32) (u : SX) : Option (Int32 × SX) := (k5 z1 (z2 + 1) u)
def GX2_settle_11_50 (k5 : Int32 → Int32 → SX → Option (Int32 × SX)) (z1 : Int32) (z2 : Int32) (u : SX) : Option (Int32 × SX) := (gd (inb z2 121) (if (u.2.1 59 z2.toNatClampNeg) = 0 then (GX2_settle_11_64 k5 z1 z2 u) else ((fX2_deliver_11 z2 u).bind fun q => match q with | (r13, u14) => (GX2_settle_11_64 k5 z1 z2 u14))))
def LX2_settle_11_5 (k70 : Int32 → SX → Option (Int32 × SX)) : Nat → Int32 → Int32 → SX → Option (Int32 × SX)
  | 0, _, _, _ => none
  | n + 1, z1, z2, u => (if z1 < z2 then (k70 z1 u) else (LX2_settle_11_12 (GX2_settle_11_50 (LX2_settle_11_5 k70 n)) 5000 z1 z2 0 u))
theorem mX2_settle_11_4 : Cond.methodLink RX2 102 Lib.Math.max.name ∈ wsX2_settle := (List.mem_cons_of_mem _ (List.mem_append_left _ (List.mem_append_left _ (List.mem_of_getElem? (i := 13) rfl))))
theorem mX2_settle_11_5 : Cond.static Lib.Math.max.name ∈ wsX2_settle := (List.mem_cons_of_mem _ (List.mem_append_left _ (List.mem_append_left _ (List.mem_of_getElem? (i := 14) rfl))))
theorem mX2_settle_11_6 : Cond.initialized "java/lang/Math" ∈ wsX2_settle := (List.mem_cons_of_mem _ (List.mem_append_left _ (List.mem_append_left _ (List.mem_of_getElem? (i := 15) rfl))))
theorem mX2_settle_11_7 : Cond.code Lib.Math.max.name Lib.Math.max.code 2 (some .int) ∈ wsX2_settle := (List.mem_cons_of_mem _ (List.mem_append_left _ (List.mem_append_left _ (List.mem_of_getElem? (i := 16) rfl))))
def GX2_settle_11_70 (z1 : Int32) (u : SX) : Option (Int32 × SX) := (lt (sI u 39 (if (u.1 39) < (z1 + 1) then (z1 + 1) else (u.1 39))) fun u16 => (some (0, u16)))
def fX2_settle_11 (x1 : Int32) (u : SX) : Option (Int32 × SX) := (lt (u.1 39) fun v1 => (LX2_settle_11_5 GX2_settle_11_70 5000 x1 v1 u))
set_option maxHeartbeats 4000000 in
set_option maxRecDepth 100000 in
theorem wLX2_settle_11_12 {p : Program} {l : Launch} {e : Env} {s : State} {m : MethodId} {args : Array Value} {below : List Frame} {meth : Method} {c : Code} {D : va_G} {cy : Nat → ClassId} {ad st : Nat → Nat} (C : Cx RX2 cX2_settle 4 none wsX2_settle p s m args meth c) (hK : Ky D [(cy 0, .int), (cy 1, .long), (cy 2, .boolean), (cy 3, .byte), (cy 4, .object "HissHorn$Text")] st s) (hJ : JX ad st) {r : Int32} {u' : SX} {k50 : Int32 → Int32 → SX → Option (Int32 × SX)} (hk50 : ∀ (z1 : Int32) (z2 : Int32) (u : SX) (H : Heap) (locs : List Loc) (ls : Array Slot), k50 z1 z2 u = some (r, u') → va_P D vwCl (VX cy ad st u) H → va_S (Ax (AX ad) s.heap.size) s.heap H locs → lv_has ls 4 [(0, .ref (ad 11)), (1, .int z1), (2, .int z2)] → W p l e rmX2_settle_11 s m args below meth c H locs 0 0 (MQ below (Qv D (VX cy ad st) (AX ad) s.heap.size r u') args s 0 0 (Ax (AX ad) s.heap.size)) (F0 m 50 ls [])) : ∀ (n : Nat) (z1 : Int32) (z2 : Int32) (z3 : Int32) (u : SX) (H : Heap) (locs : List Loc) (ls : Array Slot), LX2_settle_11_12 k50 n z1 z2 z3 u = some (r, u') → va_P D vwCl (VX cy ad st u) H → va_S (Ax (AX ad) s.heap.size) s.heap H locs → lv_has ls 4 [(0, .ref (ad 11)), (1, .int z1), (2, .int z2), (3, .int z3)] → W p l e rmX2_settle_11 s m args below meth c H locs 0 0 (MQ below (Qv D (VX cy ad st) (AX ad) s.heap.size r u') args s 0 0 (Ax (AX ad) s.heap.size)) (F0 m 12 ls []) := by
  intro n
  induction n with
  | zero =>
    intro z1 z2 z3 u H locs ls h
    exact absurd h (by intro q; cases q)
  | succ n ih =>
    intro z1 z2 z3 u H locs ls h hP hS hl
    rw [LX2_settle_11_12] at h
    refine lv_iload_n C.1 C.2.1 dX2_settle_12 rfl (lv_at hl 3 rfl) ?_
    refine lv_bipush (v := 8) C.1 C.2.1 dX2_settle_13 (by decide) ?_
    refine lv_icmp_ge (tgt := 50) C.1 C.2.1 dX2_settle_15 (by decide) (fun c15 => ?_) (fun c15 => ?_)
    · rw [if_pos c15] at h
      exact hk50 _ _ _ _ _ _ h hP hS (lv_sub hl [0, 1, 2] rfl)
    · rw [if_neg c15] at h
      refine lv_aload_n C.1 C.2.1 dX2_settle_18 rfl (lv_at hl 0 rfl) ?_
      refine gX_11_known C hX2_settle_11_X2 hK hP mX2_settle_11_2 dX2_settle_19 ?_
      refine lv_iload_n C.1 C.2.1 dX2_settle_22 rfl (lv_at hl 2 rfl) ?_
      refine lv_bipush (v := 8) C.1 C.2.1 dX2_settle_23 (by decide) ?_
      refine lv_imul C.1 C.2.1 dX2_settle_25 ?_
      refine lv_iload_n C.1 C.2.1 dX2_settle_26 rfl (lv_at hl 3 rfl) ?_
      refine lv_iadd C.1 C.2.1 dX2_settle_27 ?_
      refine lv_aload_n C.1 C.2.1 dX2_settle_28 rfl (lv_at hl 0 rfl) ?_
      refine lv_iload_n C.1 C.2.1 dX2_settle_29 rfl (lv_at hl 3 rfl) ?_
      refine lv_iload_n C.1 C.2.1 dX2_settle_30 rfl (lv_at hl 2 rfl) ?_
      refine lv_iconst (v := 1) C.1 C.2.1 dX2_settle_31 (by decide) ?_
      refine lv_isub C.1 C.2.1 dX2_settle_32 ?_
      obtain ⟨⟨r3, u4⟩, hc5, h⟩ := bd_some h
      try dsimp only at h
      refine cg_l (As := [.int z3, .int (z2 - 1)]) (rest := [.int ((z2 * 8) + z3), .ref (ad 70)]) (AX_ge hJ) C hK hP hS (metX2_knownBy_11 l D cy ad st hJ _ z3 (z2 - 1) hc5) (cwV 2 C.2.2.2.2.2.1 gX2_settle_X2_knownBy rfl rfl rfl (by decide +kernel) ⟨(Nat.le_of_ble_eq_true rfl), (Nat.le_of_ble_eq_true rfl)⟩) 11 2 rfl rfl rfl hl.1 rfl (Nat.le_of_ble_eq_true rfl) dX2_settle_33 ⟨Nat.zero_le _, Nat.zero_le _⟩ (fun H locs hP hS => ?_)
      refine lv_aload_n C.1 C.2.1 dX2_settle_36 rfl (lv_at hl 0 rfl) ?_
      refine lv_iload_n C.1 C.2.1 dX2_settle_37 rfl (lv_at hl 3 rfl) ?_
      refine lv_iload_n C.1 C.2.1 dX2_settle_38 rfl (lv_at hl 2 rfl) ?_
      obtain ⟨⟨r6, u7⟩, hc8, h⟩ := bd_some h
      try dsimp only at h
      refine cg_l (As := [.int z3, .int z2]) (rest := [.long r3, .int ((z2 * 8) + z3), .ref (ad 70)]) (AX_ge hJ) C hK hP hS (metX2_toldBy_11 l D cy ad st hJ _ z3 z2 hc8) (cwV 2 C.2.2.2.2.2.1 gX2_settle_X2_toldBy rfl rfl rfl (by decide +kernel) ⟨(Nat.le_of_ble_eq_true rfl), (Nat.le_of_ble_eq_true rfl)⟩) 11 2 rfl rfl rfl hl.1 rfl (Nat.le_of_ble_eq_true rfl) dX2_settle_39 ⟨Nat.zero_le _, Nat.zero_le _⟩ (fun H locs hP hS => ?_)
      refine lv_lor C.1 C.2.1 dX2_settle_42 ?_
      obtain ⟨hg9, h⟩ := gd_some h
      refine tX_70 C hK hP hJ hS hg9 dX2_settle_43 (fun H locs hP hS => ?_)
      obtain ⟨u10, hu11, h⟩ := lt_some h
      rw [← hu11] at hP
      refine lv_iinc (v := z3 + 1) (lv' := [(3, .int (z3 + 1)), (0, .ref (ad 11)), (1, .int z1), (2, .int z2)]) C.1 C.2.1 dX2_settle_44 hl (k := 3) rfl rfl (by decide) rfl (fun ls hl => ?_)
      replace hl := lv_sub (l' := [(0, .ref (ad 11)), (1, .int z1), (2, .int z2), (3, .int (z3 + 1))]) hl [1, 2, 3, 0] rfl
      refine lv_goto (tgt := 12) C.1 C.2.1 dX2_settle_47 (by decide) ?_
      exact ih _ _ _ _ _ _ _ h hP hS hl
set_option maxHeartbeats 4000000 in
set_option maxRecDepth 100000 in
theorem wGX2_settle_11_64 {p : Program} {l : Launch} {e : Env} {s : State} {m : MethodId} {args : Array Value} {below : List Frame} {meth : Method} {c : Code} {D : va_G} {cy : Nat → ClassId} {ad st : Nat → Nat} (C : Cx RX2 cX2_settle 4 none wsX2_settle p s m args meth c) (hK : Ky D [(cy 0, .int), (cy 1, .long), (cy 2, .boolean), (cy 3, .byte), (cy 4, .object "HissHorn$Text")] st s) (hJ : JX ad st) {r : Int32} {u' : SX} {k5 : Int32 → Int32 → SX → Option (Int32 × SX)} (hk5 : ∀ (z1 : Int32) (z2 : Int32) (u : SX) (H : Heap) (locs : List Loc) (ls : Array Slot), k5 z1 z2 u = some (r, u') → va_P D vwCl (VX cy ad st u) H → va_S (Ax (AX ad) s.heap.size) s.heap H locs → lv_has ls 4 [(0, .ref (ad 11)), (1, .int z1), (2, .int z2)] → W p l e rmX2_settle_11 s m args below meth c H locs 0 0 (MQ below (Qv D (VX cy ad st) (AX ad) s.heap.size r u') args s 0 0 (Ax (AX ad) s.heap.size)) (F0 m 5 ls [])) (z1 : Int32) (z2 : Int32) (u : SX) (H : Heap) (locs : List Loc) (ls : Array Slot) (h : GX2_settle_11_64 k5 z1 z2 u = some (r, u')) (hP : va_P D vwCl (VX cy ad st u) H) (hS : va_S (Ax (AX ad) s.heap.size) s.heap H locs) (hl : lv_has ls 4 [(0, .ref (ad 11)), (1, .int z1), (2, .int z2)]) : W p l e rmX2_settle_11 s m args below meth c H locs 0 0 (MQ below (Qv D (VX cy ad st) (AX ad) s.heap.size r u') args s 0 0 (Ax (AX ad) s.heap.size)) (F0 m 64 ls []) := by
  unfold GX2_settle_11_64 at h
  refine lv_iinc (v := z2 + 1) (lv' := [(2, .int (z2 + 1)), (0, .ref (ad 11)), (1, .int z1)]) C.1 C.2.1 dX2_settle_64 hl (k := 2) rfl rfl (by decide) rfl (fun ls hl => ?_)
  replace hl := lv_sub (l' := [(0, .ref (ad 11)), (1, .int z1), (2, .int (z2 + 1))]) hl [1, 2, 0] rfl
  refine lv_goto (tgt := 5) C.1 C.2.1 dX2_settle_67 (by decide) ?_
  exact hk5 _ _ _ _ _ _ h hP hS hl
set_option maxHeartbeats 4000000 in
set_option maxRecDepth 100000 in
theorem wGX2_settle_11_50 {p : Program} {l : Launch} {e : Env} {s : State} {m : MethodId} {args : Array Value} {below : List Frame} {meth : Method} {c : Code} {D : va_G} {cy : Nat → ClassId} {ad st : Nat → Nat} (C : Cx RX2 cX2_settle 4 none wsX2_settle p s m args meth c) (hK : Ky D [(cy 0, .int), (cy 1, .long), (cy 2, .boolean), (cy 3, .byte), (cy 4, .object "HissHorn$Text")] st s) (hJ : JX ad st) {r : Int32} {u' : SX} {k5 : Int32 → Int32 → SX → Option (Int32 × SX)} (hk5 : ∀ (z1 : Int32) (z2 : Int32) (u : SX) (H : Heap) (locs : List Loc) (ls : Array Slot), k5 z1 z2 u = some (r, u') → va_P D vwCl (VX cy ad st u) H → va_S (Ax (AX ad) s.heap.size) s.heap H locs → lv_has ls 4 [(0, .ref (ad 11)), (1, .int z1), (2, .int z2)] → W p l e rmX2_settle_11 s m args below meth c H locs 0 0 (MQ below (Qv D (VX cy ad st) (AX ad) s.heap.size r u') args s 0 0 (Ax (AX ad) s.heap.size)) (F0 m 5 ls [])) (z1 : Int32) (z2 : Int32) (u : SX) (H : Heap) (locs : List Loc) (ls : Array Slot) (h : GX2_settle_11_50 k5 z1 z2 u = some (r, u')) (hP : va_P D vwCl (VX cy ad st u) H) (hS : va_S (Ax (AX ad) s.heap.size) s.heap H locs) (hl : lv_has ls 4 [(0, .ref (ad 11)), (1, .int z1), (2, .int z2)]) : W p l e rmX2_settle_11 s m args below meth c H locs 0 0 (MQ below (Qv D (VX cy ad st) (AX ad) s.heap.size r u') args s 0 0 (Ax (AX ad) s.heap.size)) (F0 m 50 ls []) := by
  unfold GX2_settle_11_50 at h
  refine lv_aload_n C.1 C.2.1 dX2_settle_50 rfl (lv_at hl 0 rfl) ?_
  refine gX_11_busy C hX2_settle_11_X2 hK hP mX2_settle_11_3 dX2_settle_51 ?_
  refine lv_iload_n C.1 C.2.1 dX2_settle_54 rfl (lv_at hl 2 rfl) ?_
  obtain ⟨hg12, h⟩ := gd_some h
  refine lX_59 C hK hP hg12 dX2_settle_55 ?_
  refine lv_if_eq (tgt := 64) C.1 C.2.1 dX2_settle_56 (by decide) (fun c56 => ?_) (fun c56 => ?_)
  · rw [if_pos c56] at h
    exact wGX2_settle_11_64 C hK hJ hk5 _ _ _ _ _ _ h hP hS hl
  · rw [if_neg c56] at h
    refine lv_aload_n C.1 C.2.1 dX2_settle_59 rfl (lv_at hl 0 rfl) ?_
    refine lv_iload_n C.1 C.2.1 dX2_settle_60 rfl (lv_at hl 2 rfl) ?_
    obtain ⟨⟨r13, u14⟩, hc15, h⟩ := bd_some h
    try dsimp only at h
    refine cg_v (As := [.int z2]) (rest := []) (AX_ge hJ) C hK hP hS (metX2_deliver_11 l D cy ad st hJ _ z2 hc15) (cwV 1 C.2.2.2.2.2.1 gX2_settle_X2_deliver rfl rfl rfl (by decide +kernel) ⟨(Nat.le_of_ble_eq_true rfl), (Nat.le_of_ble_eq_true rfl)⟩) 11 2 rfl rfl rfl hl.1 rfl (Nat.le_of_ble_eq_true rfl) dX2_settle_61 ⟨Nat.zero_le _, Nat.zero_le _⟩ (fun H locs hP hS => ?_)
    exact wGX2_settle_11_64 C hK hJ hk5 _ _ _ _ _ _ h hP hS hl
set_option maxHeartbeats 4000000 in
set_option maxRecDepth 100000 in
theorem wLX2_settle_11_5 {p : Program} {l : Launch} {e : Env} {s : State} {m : MethodId} {args : Array Value} {below : List Frame} {meth : Method} {c : Code} {D : va_G} {cy : Nat → ClassId} {ad st : Nat → Nat} (C : Cx RX2 cX2_settle 4 none wsX2_settle p s m args meth c) (hK : Ky D [(cy 0, .int), (cy 1, .long), (cy 2, .boolean), (cy 3, .byte), (cy 4, .object "HissHorn$Text")] st s) (hJ : JX ad st) {r : Int32} {u' : SX} {k70 : Int32 → SX → Option (Int32 × SX)} (hk70 : ∀ (z1 : Int32) (u : SX) (H : Heap) (locs : List Loc) (ls : Array Slot), k70 z1 u = some (r, u') → va_P D vwCl (VX cy ad st u) H → va_S (Ax (AX ad) s.heap.size) s.heap H locs → lv_has ls 4 [(0, .ref (ad 11)), (1, .int z1)] → W p l e rmX2_settle_11 s m args below meth c H locs 0 0 (MQ below (Qv D (VX cy ad st) (AX ad) s.heap.size r u') args s 0 0 (Ax (AX ad) s.heap.size)) (F0 m 70 ls [])) : ∀ (n : Nat) (z1 : Int32) (z2 : Int32) (u : SX) (H : Heap) (locs : List Loc) (ls : Array Slot), LX2_settle_11_5 k70 n z1 z2 u = some (r, u') → va_P D vwCl (VX cy ad st u) H → va_S (Ax (AX ad) s.heap.size) s.heap H locs → lv_has ls 4 [(0, .ref (ad 11)), (1, .int z1), (2, .int z2)] → W p l e rmX2_settle_11 s m args below meth c H locs 0 0 (MQ below (Qv D (VX cy ad st) (AX ad) s.heap.size r u') args s 0 0 (Ax (AX ad) s.heap.size)) (F0 m 5 ls []) := by
  intro n
  induction n with
  | zero =>
    intro z1 z2 u H locs ls h
    exact absurd h (by intro q; cases q)
  | succ n ih =>
    intro z1 z2 u H locs ls h hP hS hl
    rw [LX2_settle_11_5] at h
    refine lv_iload_n C.1 C.2.1 dX2_settle_5 rfl (lv_at hl 2 rfl) ?_
    refine lv_iload_n C.1 C.2.1 dX2_settle_6 rfl (lv_at hl 1 rfl) ?_
    refine lv_icmp_gt (tgt := 70) C.1 C.2.1 dX2_settle_7 (by decide) (fun c7 => ?_) (fun c7 => ?_)
    · rw [if_pos c7] at h
      exact hk70 _ _ _ _ _ h hP hS (lv_sub hl [0, 1] rfl)
    · rw [if_neg c7] at h
      refine lv_iconst (v := 0) C.1 C.2.1 dX2_settle_10 (by decide) ?_
      refine lv_istore_n (lv' := [(3, .int 0), (0, .ref (ad 11)), (1, .int z1), (2, .int z2)]) C.1 C.2.1 dX2_settle_11 rfl hl (by decide) rfl (fun ls hl => ?_)
      replace hl := lv_sub (l' := [(0, .ref (ad 11)), (1, .int z1), (2, .int z2), (3, .int 0)]) hl [1, 2, 3, 0] rfl
      exact wLX2_settle_11_12 C hK hJ (wGX2_settle_11_50 C hK hJ ih) 5000 _ _ _ _ _ _ _ h hP hS hl
set_option maxHeartbeats 4000000 in
set_option maxRecDepth 100000 in
theorem wGX2_settle_11_70 {p : Program} {l : Launch} {e : Env} {s : State} {m : MethodId} {args : Array Value} {below : List Frame} {meth : Method} {c : Code} {D : va_G} {cy : Nat → ClassId} {ad st : Nat → Nat} (C : Cx RX2 cX2_settle 4 none wsX2_settle p s m args meth c) (hK : Ky D [(cy 0, .int), (cy 1, .long), (cy 2, .boolean), (cy 3, .byte), (cy 4, .object "HissHorn$Text")] st s) (hJ : JX ad st) {r : Int32} {u' : SX}   (z1 : Int32) (u : SX) (H : Heap) (locs : List Loc) (ls : Array Slot) (h : GX2_settle_11_70 z1 u = some (r, u')) (hP : va_P D vwCl (VX cy ad st u) H) (hS : va_S (Ax (AX ad) s.heap.size) s.heap H locs) (hl : lv_has ls 4 [(0, .ref (ad 11)), (1, .int z1)]) : W p l e rmX2_settle_11 s m args below meth c H locs 0 0 (MQ below (Qv D (VX cy ad st) (AX ad) s.heap.size r u') args s 0 0 (Ax (AX ad) s.heap.size)) (F0 m 70 ls []) := by
  unfold GX2_settle_11_70 at h
  refine lv_aload_n C.1 C.2.1 dX2_settle_70 rfl (lv_at hl 0 rfl) ?_
  refine lv_aload_n C.1 C.2.1 dX2_settle_71 rfl (lv_at hl 0 rfl) ?_
  refine gX_11_settled C hX2_settle_11_X2 hK hP mX2_settle_11_1 dX2_settle_72 ?_
  refine lv_iload_n C.1 C.2.1 dX2_settle_75 rfl (lv_at hl 1 rfl) ?_
  refine lv_iconst (v := 1) C.1 C.2.1 dX2_settle_76 (by decide) ?_
  refine lv_iadd C.1 C.2.1 dX2_settle_77 ?_
  refine va_mmax C.1 C.2.1 (C.2.2.1.trans hl.1.symm) C.2.2.2.2.1 (C.2.2.2.2.2.1 _ mX2_settle_11_4) (C.2.2.2.2.2.1 _ mX2_settle_11_5) (C.2.2.2.2.2.1 _ mX2_settle_11_6) (C.2.2.2.2.2.1 _ mX2_settle_11_7) (Nat.le_of_ble_eq_true rfl) (Nat.le_of_ble_eq_true rfl) (Nat.zero_le _) (Nat.zero_le _) dX2_settle_78 ?_
  refine pX_11_settled C hX2_settle_11_X2 hK hP hJ hS mX2_settle_11_1 dX2_settle_81 (fun H locs hP hS => ?_)
  obtain ⟨u16, hu17, h⟩ := lt_some h
  rw [← hu17] at hP
  cases h
  exact rt_v C hP hS dX2_settle_84
set_option maxHeartbeats 4000000 in
set_option maxRecDepth 100000 in
theorem wX2_settle_11 {p : Program} {l : Launch} {e : Env} {s : State} {m : MethodId} {args : Array Value} {below : List Frame} {meth : Method} {c : Code} {D : va_G} {cy : Nat → ClassId} {ad st : Nat → Nat} (C : Cx RX2 cX2_settle 4 none wsX2_settle p s m args meth c) (hK : Ky D [(cy 0, .int), (cy 1, .long), (cy 2, .boolean), (cy 3, .byte), (cy 4, .object "HissHorn$Text")] st s) (hJ : JX ad st) (x1 : Int32) {u : SX} {r : Int32} {u' : SX} {H : Heap} {locs : List Loc} {ls : Array Slot} (h : fX2_settle_11 x1 u = some (r, u')) (hP : va_P D vwCl (VX cy ad st u) H) (hS : va_S (Ax (AX ad) s.heap.size) s.heap H locs) (hl : lv_has ls 4 [(0, .ref (ad 11)), (1, .int x1)]) : W p l e rmX2_settle_11 s m args below meth c H locs 0 0 (MQ below (Qv D (VX cy ad st) (AX ad) s.heap.size r u') args s 0 0 (Ax (AX ad) s.heap.size)) (F0 m 0 ls []) := by
  unfold fX2_settle_11 at h
  refine lv_aload_n C.1 C.2.1 dX2_settle_0 rfl (lv_at hl 0 rfl) ?_
  refine gX_11_settled C hX2_settle_11_X2 hK hP mX2_settle_11_1 dX2_settle_1 ?_
  refine lv_topi (fun v1 hv2 => ?_)
  replace h := lt_e hv2 h
  try dsimp only at h
  refine lv_istore_n (lv' := [(2, .int v1), (0, .ref (ad 11)), (1, .int x1)]) C.1 C.2.1 dX2_settle_4 rfl hl (by decide) rfl (fun ls hl => ?_)
  replace hl := lv_sub (l' := [(0, .ref (ad 11)), (1, .int x1), (2, .int v1)]) hl [1, 2, 0] rfl
  exact wLX2_settle_11_5 C hK hJ (wGX2_settle_11_70 C hK hJ ) 5000 _ _ _ _ _ _ h hP hS hl
theorem metX2_settle_11 (l : Launch) (D : va_G) (cy : Nat → ClassId) (ad st : Nat → Nat) (hJ : JX ad st) (sz : Nat) (x1 : Int32) {u : SX} {r : Int32} {u' : SX} (h : fX2_settle_11 x1 u = some (r, u')) : Met l yX2_settle wsX2_settle rmX2_settle_11 (va_Pc [.ref (ad 11), .int x1] (Px D [(cy 0, .int), (cy 1, .long), (cy 2, .boolean), (cy 3, .byte), (cy 4, .object "HissHorn$Text")] st (VX cy ad st) sz u)) (Qv D (VX cy ad st) (AX ad) sz r u') 0 0 (Ax (AX ad) sz) := by
  refine Met.ofW (cc := cX2_settle) (maxL := 4) (ret := none) (by decide) rfl ?_
  intro p e s m args below meth c s₁ B hml hv
  obtain ⟨rfl, hsz, hP, hK⟩ := hv
  subst hsz
  have C : Cx RX2 cX2_settle 4 none wsX2_settle p s m _ meth c := ⟨B.exec, B.bytes, hml, B.returns, findClass_of_methodNamed B.named, atoms_spec (ws := wsX2_settle) B.pre, B.notSynchronized⟩
  have hl := lv_entry ([.ref (ad 11), .int x1]) (n := 4) (Nat.le_of_ble_eq_true rfl)
  rw [lg_entry_eq]
  exact wX2_settle_11 C hK hJ x1 h hP va_S.rf hl

theorem zdX11_knows_81 : (and (and (and (and (and (zk cX11_knows 81 (.lstore 6) 2) (zk cX11_knows 83 (.aload_n 0) 1)) (and (zk cX11_knows 84 (.getfield 90) 3) (zk cX11_knows 87 (.iload_n 1) 1))) (and (and (zk cX11_knows 88 (.iload 4) 2) (zk cX11_knows 90 (.invokevirtual 356) 3)) (and (zk cX11_knows 93 (.lload 6) 2) (zk cX11_knows 95 (.land) 1)))) (and (and (and (zk cX11_knows 96 (.lconst 0) 1) (zk cX11_knows 97 (.lcmp) 1)) (and (zk cX11_knows 98 (.ifCond .eq 7) 3) (zk cX11_knows 105 (.iconst 0) 1))) (and (and (zk cX11_knows 106 (.ireturn) 1) (zk cX11_knows 101 (.iconst 1) 1)) (and (zk cX11_knows 102 (.goto 4) 3) (zk cX11_knows 21 (.istore 5) 2))))) (and (and (and (and (zk cX11_knows 23 (.aload_n 0) 1) (zk cX11_knows 24 (.getfield 90) 3)) (and (zk cX11_knows 27 (.iload_n 1) 1) (zk cX11_knows 28 (.invokevirtual 323) 3))) (and (and (zk cX11_knows 31 (.ifCond .eq 24) 3) (zk cX11_knows 55 (.iconst (-1)) 1)) (and (zk cX11_knows 56 (.ireturn) 1) (zk cX11_knows 34 (.iload_n 3) 1)))) (and (and (and (zk cX11_knows 35 (.iconst 0) 1) (zk cX11_knows 36 (.iload 5) 2)) (and (zk cX11_knows 38 (.iconst 1) 1) (zk cX11_knows 39 (.isub) 1))) (and (and (zk cX11_knows 40 (.invokestatic 107) 3) (zk cX11_knows 43 (.ifCond .eq 12) 3)) (and (zk cX11_knows 46 (.aload_n 0) 1) (zk cX11_knows 47 (.iload 4) 2)))))) = true := by decide +kernel
theorem dX11_knows_81 : decode cX11_knows 81 = .ok (.lstore 6, 2) := zk_of (zk_l (zk_l (zk_l (zk_l (zk_l zdX11_knows_81)))))
theorem dX11_knows_83 : decode cX11_knows 83 = .ok (.aload_n 0, 1) := zk_of (zk_r (zk_l (zk_l (zk_l (zk_l zdX11_knows_81)))))
theorem dX11_knows_84 : decode cX11_knows 84 = .ok (.getfield 90, 3) := zk_of (zk_l (zk_r (zk_l (zk_l (zk_l zdX11_knows_81)))))
theorem dX11_knows_87 : decode cX11_knows 87 = .ok (.iload_n 1, 1) := zk_of (zk_r (zk_r (zk_l (zk_l (zk_l zdX11_knows_81)))))
theorem dX11_knows_88 : decode cX11_knows 88 = .ok (.iload 4, 2) := zk_of (zk_l (zk_l (zk_r (zk_l (zk_l zdX11_knows_81)))))
theorem dX11_knows_90 : decode cX11_knows 90 = .ok (.invokevirtual 356, 3) := zk_of (zk_r (zk_l (zk_r (zk_l (zk_l zdX11_knows_81)))))
theorem dX11_knows_93 : decode cX11_knows 93 = .ok (.lload 6, 2) := zk_of (zk_l (zk_r (zk_r (zk_l (zk_l zdX11_knows_81)))))
theorem dX11_knows_95 : decode cX11_knows 95 = .ok (.land, 1) := zk_of (zk_r (zk_r (zk_r (zk_l (zk_l zdX11_knows_81)))))
theorem dX11_knows_96 : decode cX11_knows 96 = .ok (.lconst 0, 1) := zk_of (zk_l (zk_l (zk_l (zk_r (zk_l zdX11_knows_81)))))
theorem dX11_knows_97 : decode cX11_knows 97 = .ok (.lcmp, 1) := zk_of (zk_r (zk_l (zk_l (zk_r (zk_l zdX11_knows_81)))))
theorem dX11_knows_98 : decode cX11_knows 98 = .ok (.ifCond .eq 7, 3) := zk_of (zk_l (zk_r (zk_l (zk_r (zk_l zdX11_knows_81)))))
theorem dX11_knows_105 : decode cX11_knows 105 = .ok (.iconst 0, 1) := zk_of (zk_r (zk_r (zk_l (zk_r (zk_l zdX11_knows_81)))))
theorem dX11_knows_106 : decode cX11_knows 106 = .ok (.ireturn, 1) := zk_of (zk_l (zk_l (zk_r (zk_r (zk_l zdX11_knows_81)))))
theorem dX11_knows_101 : decode cX11_knows 101 = .ok (.iconst 1, 1) := zk_of (zk_r (zk_l (zk_r (zk_r (zk_l zdX11_knows_81)))))
theorem dX11_knows_102 : decode cX11_knows 102 = .ok (.goto 4, 3) := zk_of (zk_l (zk_r (zk_r (zk_r (zk_l zdX11_knows_81)))))
theorem dX11_knows_21 : decode cX11_knows 21 = .ok (.istore 5, 2) := zk_of (zk_r (zk_r (zk_r (zk_r (zk_l zdX11_knows_81)))))
theorem dX11_knows_23 : decode cX11_knows 23 = .ok (.aload_n 0, 1) := zk_of (zk_l (zk_l (zk_l (zk_l (zk_r zdX11_knows_81)))))
theorem dX11_knows_24 : decode cX11_knows 24 = .ok (.getfield 90, 3) := zk_of (zk_r (zk_l (zk_l (zk_l (zk_r zdX11_knows_81)))))
theorem dX11_knows_27 : decode cX11_knows 27 = .ok (.iload_n 1, 1) := zk_of (zk_l (zk_r (zk_l (zk_l (zk_r zdX11_knows_81)))))
theorem dX11_knows_28 : decode cX11_knows 28 = .ok (.invokevirtual 323, 3) := zk_of (zk_r (zk_r (zk_l (zk_l (zk_r zdX11_knows_81)))))
theorem dX11_knows_31 : decode cX11_knows 31 = .ok (.ifCond .eq 24, 3) := zk_of (zk_l (zk_l (zk_r (zk_l (zk_r zdX11_knows_81)))))
theorem dX11_knows_55 : decode cX11_knows 55 = .ok (.iconst (-1), 1) := zk_of (zk_r (zk_l (zk_r (zk_l (zk_r zdX11_knows_81)))))
theorem dX11_knows_56 : decode cX11_knows 56 = .ok (.ireturn, 1) := zk_of (zk_l (zk_r (zk_r (zk_l (zk_r zdX11_knows_81)))))
theorem dX11_knows_34 : decode cX11_knows 34 = .ok (.iload_n 3, 1) := zk_of (zk_r (zk_r (zk_r (zk_l (zk_r zdX11_knows_81)))))
theorem dX11_knows_35 : decode cX11_knows 35 = .ok (.iconst 0, 1) := zk_of (zk_l (zk_l (zk_l (zk_r (zk_r zdX11_knows_81)))))
theorem dX11_knows_36 : decode cX11_knows 36 = .ok (.iload 5, 2) := zk_of (zk_r (zk_l (zk_l (zk_r (zk_r zdX11_knows_81)))))
theorem dX11_knows_38 : decode cX11_knows 38 = .ok (.iconst 1, 1) := zk_of (zk_l (zk_r (zk_l (zk_r (zk_r zdX11_knows_81)))))
theorem dX11_knows_39 : decode cX11_knows 39 = .ok (.isub, 1) := zk_of (zk_r (zk_r (zk_l (zk_r (zk_r zdX11_knows_81)))))
theorem dX11_knows_40 : decode cX11_knows 40 = .ok (.invokestatic 107, 3) := zk_of (zk_l (zk_l (zk_r (zk_r (zk_r zdX11_knows_81)))))
theorem dX11_knows_43 : decode cX11_knows 43 = .ok (.ifCond .eq 12, 3) := zk_of (zk_r (zk_l (zk_r (zk_r (zk_r zdX11_knows_81)))))
theorem dX11_knows_46 : decode cX11_knows 46 = .ok (.aload_n 0, 1) := zk_of (zk_l (zk_r (zk_r (zk_r (zk_r zdX11_knows_81)))))
theorem dX11_knows_47 : decode cX11_knows 47 = .ok (.iload 4, 2) := zk_of (zk_r (zk_r (zk_r (zk_r (zk_r zdX11_knows_81)))))
set_option maxRecDepth 20000 in
theorem ggX11_knows_X2_knownBy : GoodIn wsX11_knows wsX2_knownBy := ggi (fun w h => List.mem_cons_of_mem _ (List.mem_append_left _ (List.mem_append_left _ (List.mem_append_right _ (List.mem_append_left _ h))))) gs_X2_knownBy
set_option maxRecDepth 20000 in
theorem gX11_knows_X2_knownBy : GoodIn wsX11_knows (wsV RX11 356 RX2 yX2_knownBy wsX2_knownBy) := goodIn_app (goodIn_of _ (by decide +kernel)) ggX11_knows_X2_knownBy
set_option maxRecDepth 20000 in
theorem ggX11_knows_X2_has : GoodIn wsX11_knows wsX2_has := ggi (fun w h => List.mem_cons_of_mem _ (List.mem_append_left _ (List.mem_append_left _ (List.mem_append_right _ (List.mem_append_right _ (List.mem_append_left _ h)))))) gs_X2_has
set_option maxRecDepth 20000 in
theorem gX11_knows_X2_has : GoodIn wsX11_knows (wsV RX11 323 RX2 yX2_has wsX2_has) := goodIn_app (goodIn_of _ (by decide +kernel)) ggX11_knows_X2_has
set_option maxRecDepth 20000 in
theorem ggX11_knows_X11_within : GoodIn wsX11_knows wsX11_within := ggi (fun w h => List.mem_cons_of_mem _ (List.mem_append_left _ (List.mem_append_left _ (List.mem_append_right _ (List.mem_append_right _ (List.mem_append_right _ (List.mem_append_left _ h))))))) gs_X11_within
set_option maxRecDepth 20000 in
theorem gX11_knows_X11_within : GoodIn wsX11_knows (va_wsS RX11 107 yX11_within wsX11_within) := goodIn_app (goodIn_of _ (by decide +kernel)) ggX11_knows_X11_within
set_option maxRecDepth 20000 in
theorem ggX11_knows_X11_isDay : GoodIn wsX11_knows wsX11_isDay := ggi (fun w h => List.mem_cons_of_mem _ (List.mem_append_left _ (List.mem_append_left _ (List.mem_append_right _ (List.mem_append_right _ (List.mem_append_right _ (List.mem_append_right _ (List.mem_append_left _ h)))))))) gs_X11_isDay
set_option maxRecDepth 20000 in
theorem gX11_knows_X11_isDay : GoodIn wsX11_knows (wsV RX11 174 RX11 yX11_isDay wsX11_isDay) := goodIn_app (goodIn_of _ (by decide +kernel)) ggX11_knows_X11_isDay
theorem zdX11_knows_49 : (and (and (and (and (and (zk cX11_knows 49 (.invokevirtual 174) 3) (zk cX11_knows 52 (.ifCond .ne 5) 3)) (zk cX11_knows 57 (.aload_n 0) 1)) (and (and (zk cX11_knows 58 (.getfield 90) 3) (zk cX11_knows 61 (.iload 4) 2)) (zk cX11_knows 63 (.invokevirtual 346) 3))) (and (and (and (zk cX11_knows 66 (.iload_n 2) 1) (zk cX11_knows 67 (.ifCond .eq 10) 3)) (zk cX11_knows 77 (.iload_n 3) 1)) (and (zk cX11_knows 78 (.invokestatic 353) 3) (zk cX11_knows 70 (.iload_n 3) 1)))) (and (and (and (and (zk cX11_knows 71 (.invokestatic 349) 3) (zk cX11_knows 74 (.goto 7) 3)) (zk cX11_knows 0 (.iload_n 2) 1)) (and (and (zk cX11_knows 1 (.ifCond .eq 13) 3) (zk cX11_knows 14 (.aload_n 0) 1)) (zk cX11_knows 15 (.getfield 90) 3))) (and (and (and (zk cX11_knows 18 (.getfield 330) 3) (zk cX11_knows 4 (.aload_n 0) 1)) (zk cX11_knows 5 (.getfield 90) 3)) (and (zk cX11_knows 8 (.getfield 324) 3) (zk cX11_knows 11 (.goto 10) 3))))) = true := by decide +kernel
theorem dX11_knows_49 : decode cX11_knows 49 = .ok (.invokevirtual 174, 3) := zk_of (zk_l (zk_l (zk_l (zk_l (zk_l zdX11_knows_49)))))
theorem dX11_knows_52 : decode cX11_knows 52 = .ok (.ifCond .ne 5, 3) := zk_of (zk_r (zk_l (zk_l (zk_l (zk_l zdX11_knows_49)))))
theorem dX11_knows_57 : decode cX11_knows 57 = .ok (.aload_n 0, 1) := zk_of (zk_r (zk_l (zk_l (zk_l zdX11_knows_49))))
theorem dX11_knows_58 : decode cX11_knows 58 = .ok (.getfield 90, 3) := zk_of (zk_l (zk_l (zk_r (zk_l (zk_l zdX11_knows_49)))))
theorem dX11_knows_61 : decode cX11_knows 61 = .ok (.iload 4, 2) := zk_of (zk_r (zk_l (zk_r (zk_l (zk_l zdX11_knows_49)))))
theorem dX11_knows_63 : decode cX11_knows 63 = .ok (.invokevirtual 346, 3) := zk_of (zk_r (zk_r (zk_l (zk_l zdX11_knows_49))))
theorem dX11_knows_66 : decode cX11_knows 66 = .ok (.iload_n 2, 1) := zk_of (zk_l (zk_l (zk_l (zk_r (zk_l zdX11_knows_49)))))
theorem dX11_knows_67 : decode cX11_knows 67 = .ok (.ifCond .eq 10, 3) := zk_of (zk_r (zk_l (zk_l (zk_r (zk_l zdX11_knows_49)))))
theorem dX11_knows_77 : decode cX11_knows 77 = .ok (.iload_n 3, 1) := zk_of (zk_r (zk_l (zk_r (zk_l zdX11_knows_49))))
theorem dX11_knows_78 : decode cX11_knows 78 = .ok (.invokestatic 353, 3) := zk_of (zk_l (zk_r (zk_r (zk_l zdX11_knows_49))))
theorem dX11_knows_70 : decode cX11_knows 70 = .ok (.iload_n 3, 1) := zk_of (zk_r (zk_r (zk_r (zk_l zdX11_knows_49))))
theorem dX11_knows_71 : decode cX11_knows 71 = .ok (.invokestatic 349, 3) := zk_of (zk_l (zk_l (zk_l (zk_l (zk_r zdX11_knows_49)))))
theorem dX11_knows_74 : decode cX11_knows 74 = .ok (.goto 7, 3) := zk_of (zk_r (zk_l (zk_l (zk_l (zk_r zdX11_knows_49)))))
theorem dX11_knows_0 : decode cX11_knows 0 = .ok (.iload_n 2, 1) := zk_of (zk_r (zk_l (zk_l (zk_r zdX11_knows_49))))
theorem dX11_knows_1 : decode cX11_knows 1 = .ok (.ifCond .eq 13, 3) := zk_of (zk_l (zk_l (zk_r (zk_l (zk_r zdX11_knows_49)))))
theorem dX11_knows_14 : decode cX11_knows 14 = .ok (.aload_n 0, 1) := zk_of (zk_r (zk_l (zk_r (zk_l (zk_r zdX11_knows_49)))))
theorem dX11_knows_15 : decode cX11_knows 15 = .ok (.getfield 90, 3) := zk_of (zk_r (zk_r (zk_l (zk_r zdX11_knows_49))))
theorem dX11_knows_18 : decode cX11_knows 18 = .ok (.getfield 330, 3) := zk_of (zk_l (zk_l (zk_l (zk_r (zk_r zdX11_knows_49)))))
theorem dX11_knows_4 : decode cX11_knows 4 = .ok (.aload_n 0, 1) := zk_of (zk_r (zk_l (zk_l (zk_r (zk_r zdX11_knows_49)))))
theorem dX11_knows_5 : decode cX11_knows 5 = .ok (.getfield 90, 3) := zk_of (zk_r (zk_l (zk_r (zk_r zdX11_knows_49))))
theorem dX11_knows_8 : decode cX11_knows 8 = .ok (.getfield 324, 3) := zk_of (zk_l (zk_r (zk_r (zk_r zdX11_knows_49))))
theorem dX11_knows_11 : decode cX11_knows 11 = .ok (.goto 10, 3) := zk_of (zk_r (zk_r (zk_r (zk_r zdX11_knows_49))))
set_option maxRecDepth 20000 in
theorem ggX11_knows_X2_settle : GoodIn wsX11_knows wsX2_settle := ggi (fun w h => List.mem_cons_of_mem _ (List.mem_append_left _ (List.mem_append_left _ (List.mem_append_right _ (List.mem_append_right _ (List.mem_append_right _ (List.mem_append_right _ (List.mem_append_right _ (List.mem_append_left _ h))))))))) gs_X2_settle
set_option maxRecDepth 20000 in
theorem gX11_knows_X2_settle : GoodIn wsX11_knows (wsV RX11 346 RX2 yX2_settle wsX2_settle) := goodIn_app (goodIn_of _ (by decide +kernel)) ggX11_knows_X2_settle
set_option maxRecDepth 20000 in
theorem ggX11_knows_X2_printBit : GoodIn wsX11_knows wsX2_printBit := ggi (fun w h => List.mem_cons_of_mem _ (List.mem_append_left _ (List.mem_append_left _ (List.mem_append_right _ (List.mem_append_right _ (List.mem_append_right _ (List.mem_append_right _ (List.mem_append_right _ (List.mem_append_right _ (List.mem_append_left _ h)))))))))) gs_X2_printBit
set_option maxRecDepth 20000 in
theorem gX11_knows_X2_printBit : GoodIn wsX11_knows (va_wsS RX11 353 yX2_printBit wsX2_printBit) := goodIn_app (goodIn_of _ (by decide +kernel)) ggX11_knows_X2_printBit
set_option maxRecDepth 20000 in
theorem ggX11_knows_X2_paperBit : GoodIn wsX11_knows wsX2_paperBit := ggi (fun w h => List.mem_cons_of_mem _ (List.mem_append_left _ (List.mem_append_left _ (List.mem_append_right _ (List.mem_append_right _ (List.mem_append_right _ (List.mem_append_right _ (List.mem_append_right _ (List.mem_append_right _ (List.mem_append_right _ h)))))))))) gs_X2_paperBit
set_option maxRecDepth 20000 in
theorem gX11_knows_X2_paperBit : GoodIn wsX11_knows (va_wsS RX11 349 yX2_paperBit wsX2_paperBit) := goodIn_app (goodIn_of _ (by decide +kernel)) ggX11_knows_X2_paperBit
/-- HissHorn.knows(IZII)I of cell 0 -/
def rmX11_knows_0 : Room := { frames := 3, cells := 0, slots := 0, locals := 67 }
theorem hX11_knows_0_X11 : ∀ w ∈ u_ws RX11 TX11 13, w ∈ wsX11_knows := fun w h => (List.mem_cons_of_mem _ (List.mem_append_left _ (List.mem_append_right _ h)))
theorem mX11_knows_0_1 : Cond.fieldLink RX11 90 "HissHorn" "houses" "LHissHorn$Houses;" ∈ wsX11_knows := (List.mem_cons_of_mem _ (List.mem_append_left _ (List.mem_append_left _ (List.mem_append_left _ (List.mem_of_getElem? (i := 20) rfl)))))
theorem hX11_knows_0_X2 : ∀ w ∈ u_ws RX2 TX2 18, w ∈ wsX11_knows := fun w h => (List.mem_cons_of_mem _ (List.mem_append_right _ h))
theorem mX11_knows_0_3 : Cond.fieldLink RX11 330 "HissHorn$Houses" "prints" "I" ∈ wsX11_knows := (List.mem_cons_of_mem _ (List.mem_append_left _ (List.mem_append_left _ (List.mem_append_left _ (List.mem_of_getElem? (i := 21) rfl)))))
def GX11_knows_0_81 (z1 : Int32) (z4 : Int32) (y0 : Int64) (u : SX) : Option (Int32 × SX) := ((fX2_knownBy_11 z1 z4 u).bind fun q => match q with | (r16, u17) => (if (lg_cmp (r16 &&& y0) 0) = 0 then (some (0, u17)) else (some (1, u17))))
def GX11_knows_0_21 (z1 : Int32) (z2 : Int32) (z3 : Int32) (z4 : Int32) (y0 : Int32) (u : SX) : Option (Int32 × SX) := ((fX2_has_11 z1 u).bind fun q => match q with | (r1, u2) => (if r1 = 0 then (some ((-1), u2)) else ((fX11_within z3 0 (y0 - 1)).bind fun r4 => (if r4 = 0 then (some ((-1), u2)) else ((fX11_isDay_0 z4 u2).bind fun q => match q with | (r7, u8) => (if r7 = 0 then (some ((-1), u8)) else ((fX2_settle_11 z4 u8).bind fun q => match q with | (r10, u11) => (if z2 = 0 then ((fX2_printBit z3).bind fun r13 => (GX11_knows_0_81 z1 z4 r13 u11)) else ((fX2_paperBit z3).bind fun r19 => (GX11_knows_0_81 z1 z4 r19 u11))))))))))
theorem mX11_knows_0_4 : Cond.fieldLink RX11 324 "HissHorn$Houses" "papers" "I" ∈ wsX11_knows := (List.mem_cons_of_mem _ (List.mem_append_left _ (List.mem_append_left _ (List.mem_append_left _ (List.mem_of_getElem? (i := 22) rfl)))))
def fX11_knows_0 (x1 : Int32) (x2 : Int32) (x3 : Int32) (x4 : Int32) (u : SX) : Option (Int32 × SX) := (if x2 = 0 then (GX11_knows_0_21 x1 x2 x3 x4 (u.1 36) u) else (GX11_knows_0_21 x1 x2 x3 x4 (u.1 37) u))
set_option maxHeartbeats 4000000 in
set_option maxRecDepth 100000 in
theorem wGX11_knows_0_81 {p : Program} {l : Launch} {e : Env} {s : State} {m : MethodId} {args : Array Value} {below : List Frame} {meth : Method} {c : Code} {D : va_G} {cy : Nat → ClassId} {ad st : Nat → Nat} (C : Cx RX11 cX11_knows 8 (some .int) wsX11_knows p s m args meth c) (hK : Ky D [(cy 0, .int), (cy 1, .long), (cy 2, .boolean), (cy 3, .byte), (cy 4, .object "HissHorn$Text")] st s) (hJ : JX ad st) {r : Int32} {u' : SX}   (z1 : Int32) (z4 : Int32) (y0 : Int64) (u : SX) (H : Heap) (locs : List Loc) (ls : Array Slot) (h : GX11_knows_0_81 z1 z4 y0 u = some (r, u')) (hP : va_P D vwCl (VX cy ad st u) H) (hS : va_S (Ax (AX ad) s.heap.size) s.heap H locs) (hl : lv_has ls 8 [(0, .ref (ad 0)), (1, .int z1), (4, .int z4)]) : W p l e rmX11_knows_0 s m args below meth c H locs 0 0 (MQ below (Qi D (VX cy ad st) (AX ad) s.heap.size r u') args s 0 0 (Ax (AX ad) s.heap.size)) (F0 m 81 ls [.long y0]) := by
  unfold GX11_knows_0_81 at h
  refine lv_lstore (lv' := [(6, .long y0), (0, .ref (ad 0)), (1, .int z1), (4, .int z4)]) C.1 C.2.1 dX11_knows_81 hl (by decide) rfl (fun ls hl => ?_)
  replace hl := lv_sub (l' := [(0, .ref (ad 0)), (1, .int z1), (4, .int z4), (6, .long y0)]) hl [1, 2, 3, 0] rfl
  refine lv_aload_n C.1 C.2.1 dX11_knows_83 rfl (lv_at hl 0 rfl) ?_
  refine gX_0_houses C hX11_knows_0_X11 hK hP mX11_knows_0_1 dX11_knows_84 ?_
  refine lv_iload_n C.1 C.2.1 dX11_knows_87 rfl (lv_at hl 1 rfl) ?_
  refine lv_iload C.1 C.2.1 dX11_knows_88 (lv_at hl 2 rfl) ?_
  obtain ⟨⟨r16, u17⟩, hc18, h⟩ := bd_some h
  try dsimp only at h
  refine cg_l (As := [.int z1, .int z4]) (rest := []) (AX_ge hJ) C hK hP hS (metX2_knownBy_11 l D cy ad st hJ _ z1 z4 hc18) (cwV 2 C.2.2.2.2.2.1 gX11_knows_X2_knownBy rfl rfl rfl (by decide +kernel) ⟨(Nat.le_of_ble_eq_true rfl), (Nat.le_of_ble_eq_true rfl)⟩) 11 2 rfl rfl rfl hl.1 rfl (Nat.le_of_ble_eq_true rfl) dX11_knows_90 ⟨Nat.zero_le _, Nat.zero_le _⟩ (fun H locs hP hS => ?_)
  refine lv_lload C.1 C.2.1 dX11_knows_93 (lv_at hl 3 rfl) ?_
  refine lv_land C.1 C.2.1 dX11_knows_95 ?_
  refine lv_lconst (v := 0) C.1 C.2.1 dX11_knows_96 (by decide) ?_
  refine W.lcmp C.1 C.2.1 dX11_knows_97 ?_
  refine lv_if_eq (tgt := 105) C.1 C.2.1 dX11_knows_98 (by decide) (fun c98 => ?_) (fun c98 => ?_)
  · rw [if_pos c98] at h
    refine lv_iconst (v := 0) C.1 C.2.1 dX11_knows_105 (by decide) ?_
    cases h
    exact rt_i C hP hS dX11_knows_106
  · rw [if_neg c98] at h
    refine lv_iconst (v := 1) C.1 C.2.1 dX11_knows_101 (by decide) ?_
    refine lv_goto (tgt := 106) C.1 C.2.1 dX11_knows_102 (by decide) ?_
    cases h
    exact rt_i C hP hS dX11_knows_106
set_option maxHeartbeats 4000000 in
set_option maxRecDepth 100000 in
theorem wGX11_knows_0_21 {p : Program} {l : Launch} {e : Env} {s : State} {m : MethodId} {args : Array Value} {below : List Frame} {meth : Method} {c : Code} {D : va_G} {cy : Nat → ClassId} {ad st : Nat → Nat} (C : Cx RX11 cX11_knows 8 (some .int) wsX11_knows p s m args meth c) (hK : Ky D [(cy 0, .int), (cy 1, .long), (cy 2, .boolean), (cy 3, .byte), (cy 4, .object "HissHorn$Text")] st s) (hJ : JX ad st) {r : Int32} {u' : SX}   (z1 : Int32) (z2 : Int32) (z3 : Int32) (z4 : Int32) (y0 : Int32) (u : SX) (H : Heap) (locs : List Loc) (ls : Array Slot) (h : GX11_knows_0_21 z1 z2 z3 z4 y0 u = some (r, u')) (hP : va_P D vwCl (VX cy ad st u) H) (hS : va_S (Ax (AX ad) s.heap.size) s.heap H locs) (hl : lv_has ls 8 [(0, .ref (ad 0)), (1, .int z1), (2, .int z2), (3, .int z3), (4, .int z4)]) : W p l e rmX11_knows_0 s m args below meth c H locs 0 0 (MQ below (Qi D (VX cy ad st) (AX ad) s.heap.size r u') args s 0 0 (Ax (AX ad) s.heap.size)) (F0 m 21 ls [.int y0]) := by
  unfold GX11_knows_0_21 at h
  refine lv_istore (lv' := [(5, .int y0), (0, .ref (ad 0)), (1, .int z1), (2, .int z2), (3, .int z3), (4, .int z4)]) C.1 C.2.1 dX11_knows_21 hl (by decide) rfl (fun ls hl => ?_)
  replace hl := lv_sub (l' := [(0, .ref (ad 0)), (1, .int z1), (2, .int z2), (3, .int z3), (4, .int z4), (5, .int y0)]) hl [1, 2, 3, 4, 5, 0] rfl
  refine lv_aload_n C.1 C.2.1 dX11_knows_23 rfl (lv_at hl 0 rfl) ?_
  refine gX_0_houses C hX11_knows_0_X11 hK hP mX11_knows_0_1 dX11_knows_24 ?_
  refine lv_iload_n C.1 C.2.1 dX11_knows_27 rfl (lv_at hl 1 rfl) ?_
  obtain ⟨⟨r1, u2⟩, hc3, h⟩ := bd_some h
  try dsimp only at h
  refine cg_i (As := [.int z1]) (rest := []) (AX_ge hJ) C hK hP hS (metX2_has_11 l D cy ad st hJ _ z1 hc3) (cwV 1 C.2.2.2.2.2.1 gX11_knows_X2_has rfl rfl rfl (by decide +kernel) ⟨(Nat.le_of_ble_eq_true rfl), (Nat.le_of_ble_eq_true rfl)⟩) 11 2 rfl rfl rfl hl.1 rfl (Nat.le_of_ble_eq_true rfl) dX11_knows_28 ⟨Nat.zero_le _, Nat.zero_le _⟩ (fun H locs hP hS => ?_)
  refine lv_if_eq (tgt := 55) C.1 C.2.1 dX11_knows_31 (by decide) (fun c31 => ?_) (fun c31 => ?_)
  · rw [if_pos c31] at h
    refine lv_iconst (v := (-1)) C.1 C.2.1 dX11_knows_55 (by decide) ?_
    cases h
    exact rt_i C hP hS dX11_knows_56
  · rw [if_neg c31] at h
    refine lv_iload_n C.1 C.2.1 dX11_knows_34 rfl (lv_at hl 3 rfl) ?_
    refine lv_iconst (v := 0) C.1 C.2.1 dX11_knows_35 (by decide) ?_
    refine lv_iload C.1 C.2.1 dX11_knows_36 (lv_at hl 5 rfl) ?_
    refine lv_iconst (v := 1) C.1 C.2.1 dX11_knows_38 (by decide) ?_
    refine lv_isub C.1 C.2.1 dX11_knows_39 ?_
    obtain ⟨r4, hc6, h⟩ := bd_some h
    refine cs_i (As := [.int z3, .int 0, .int (y0 - 1)]) (rest := []) (AX_ge hJ) C hK hP hS (metX11_within l D cy st _ z3 0 (y0 - 1) hc6) (va_cwS 3 C.2.2.2.2.2.1 gX11_knows_X11_within rfl rfl rfl (by decide +kernel) ⟨(Nat.le_of_ble_eq_true rfl), (Nat.le_of_ble_eq_true rfl)⟩) rfl hl.1 rfl (Nat.le_of_ble_eq_true rfl) dX11_knows_40 ⟨Nat.zero_le _, Nat.zero_le _⟩ (fun H locs hP hS => ?_)
    refine lv_if_eq (tgt := 55) C.1 C.2.1 dX11_knows_43 (by decide) (fun c43 => ?_) (fun c43 => ?_)
    · rw [if_pos c43] at h
      refine lv_iconst (v := (-1)) C.1 C.2.1 dX11_knows_55 (by decide) ?_
      cases h
      exact rt_i C hP hS dX11_knows_56
    · rw [if_neg c43] at h
      refine lv_aload_n C.1 C.2.1 dX11_knows_46 rfl (lv_at hl 0 rfl) ?_
      refine lv_iload C.1 C.2.1 dX11_knows_47 (lv_at hl 4 rfl) ?_
      obtain ⟨⟨r7, u8⟩, hc9, h⟩ := bd_some h
      try dsimp only at h
      refine cg_i (As := [.int z4]) (rest := []) (AX_ge hJ) C hK hP hS (metX11_isDay_0 l D cy ad st hJ _ z4 hc9) (cwV 1 C.2.2.2.2.2.1 gX11_knows_X11_isDay rfl rfl rfl (by decide +kernel) ⟨(Nat.le_of_ble_eq_true rfl), (Nat.le_of_ble_eq_true rfl)⟩) 0 11 rfl rfl rfl hl.1 rfl (Nat.le_of_ble_eq_true rfl) dX11_knows_49 ⟨Nat.zero_le _, Nat.zero_le _⟩ (fun H locs hP hS => ?_)
      refine lv_if_ne (tgt := 57) C.1 C.2.1 dX11_knows_52 (by decide) (fun c52 => ?_) (fun c52 => ?_)
      · rw [if_neg c52] at h
        refine lv_aload_n C.1 C.2.1 dX11_knows_57 rfl (lv_at hl 0 rfl) ?_
        refine gX_0_houses C hX11_knows_0_X11 hK hP mX11_knows_0_1 dX11_knows_58 ?_
        refine lv_iload C.1 C.2.1 dX11_knows_61 (lv_at hl 4 rfl) ?_
        obtain ⟨⟨r10, u11⟩, hc12, h⟩ := bd_some h
        try dsimp only at h
        refine cg_v (As := [.int z4]) (rest := []) (AX_ge hJ) C hK hP hS (metX2_settle_11 l D cy ad st hJ _ z4 hc12) (cwV 1 C.2.2.2.2.2.1 gX11_knows_X2_settle rfl rfl rfl (by decide +kernel) ⟨(Nat.le_of_ble_eq_true rfl), (Nat.le_of_ble_eq_true rfl)⟩) 11 2 rfl rfl rfl hl.1 rfl (Nat.le_of_ble_eq_true rfl) dX11_knows_63 ⟨Nat.zero_le _, Nat.zero_le _⟩ (fun H locs hP hS => ?_)
        refine lv_iload_n C.1 C.2.1 dX11_knows_66 rfl (lv_at hl 2 rfl) ?_
        refine lv_if_eq (tgt := 77) C.1 C.2.1 dX11_knows_67 (by decide) (fun c67 => ?_) (fun c67 => ?_)
        · rw [if_pos c67] at h
          refine lv_iload_n C.1 C.2.1 dX11_knows_77 rfl (lv_at hl 3 rfl) ?_
          obtain ⟨r13, hc15, h⟩ := bd_some h
          refine cs_l (As := [.int z3]) (rest := []) (AX_ge hJ) C hK hP hS (metX2_printBit l D cy st _ z3 hc15) (va_cwS 1 C.2.2.2.2.2.1 gX11_knows_X2_printBit rfl rfl rfl (by decide +kernel) ⟨(Nat.le_of_ble_eq_true rfl), (Nat.le_of_ble_eq_true rfl)⟩) rfl hl.1 rfl (Nat.le_of_ble_eq_true rfl) dX11_knows_78 ⟨Nat.zero_le _, Nat.zero_le _⟩ (fun H locs hP hS => ?_)
          exact wGX11_knows_0_81 C hK hJ _ _ _ _ _ _ _ h hP hS (lv_sub hl [0, 1, 4] rfl)
        · rw [if_neg c67] at h
          refine lv_iload_n C.1 C.2.1 dX11_knows_70 rfl (lv_at hl 3 rfl) ?_
          obtain ⟨r19, hc21, h⟩ := bd_some h
          refine cs_l (As := [.int z3]) (rest := []) (AX_ge hJ) C hK hP hS (metX2_paperBit l D cy st _ z3 hc21) (va_cwS 1 C.2.2.2.2.2.1 gX11_knows_X2_paperBit rfl rfl rfl (by decide +kernel) ⟨(Nat.le_of_ble_eq_true rfl), (Nat.le_of_ble_eq_true rfl)⟩) rfl hl.1 rfl (Nat.le_of_ble_eq_true rfl) dX11_knows_71 ⟨Nat.zero_le _, Nat.zero_le _⟩ (fun H locs hP hS => ?_)
          refine lv_goto (tgt := 81) C.1 C.2.1 dX11_knows_74 (by decide) ?_
          exact wGX11_knows_0_81 C hK hJ _ _ _ _ _ _ _ h hP hS (lv_sub hl [0, 1, 4] rfl)
      · rw [if_pos c52] at h
        refine lv_iconst (v := (-1)) C.1 C.2.1 dX11_knows_55 (by decide) ?_
        cases h
        exact rt_i C hP hS dX11_knows_56
set_option maxHeartbeats 4000000 in
set_option maxRecDepth 100000 in
theorem wX11_knows_0 {p : Program} {l : Launch} {e : Env} {s : State} {m : MethodId} {args : Array Value} {below : List Frame} {meth : Method} {c : Code} {D : va_G} {cy : Nat → ClassId} {ad st : Nat → Nat} (C : Cx RX11 cX11_knows 8 (some .int) wsX11_knows p s m args meth c) (hK : Ky D [(cy 0, .int), (cy 1, .long), (cy 2, .boolean), (cy 3, .byte), (cy 4, .object "HissHorn$Text")] st s) (hJ : JX ad st) (x1 : Int32) (x2 : Int32) (x3 : Int32) (x4 : Int32) {u : SX} {r : Int32} {u' : SX} {H : Heap} {locs : List Loc} {ls : Array Slot} (h : fX11_knows_0 x1 x2 x3 x4 u = some (r, u')) (hP : va_P D vwCl (VX cy ad st u) H) (hS : va_S (Ax (AX ad) s.heap.size) s.heap H locs) (hl : lv_has ls 8 [(0, .ref (ad 0)), (1, .int x1), (2, .int x2), (3, .int x3), (4, .int x4)]) : W p l e rmX11_knows_0 s m args below meth c H locs 0 0 (MQ below (Qi D (VX cy ad st) (AX ad) s.heap.size r u') args s 0 0 (Ax (AX ad) s.heap.size)) (F0 m 0 ls []) := by
  unfold fX11_knows_0 at h
  refine lv_iload_n C.1 C.2.1 dX11_knows_0 rfl (lv_at hl 2 rfl) ?_
  refine lv_if_eq (tgt := 14) C.1 C.2.1 dX11_knows_1 (by decide) (fun c1 => ?_) (fun c1 => ?_)
  · rw [if_pos c1] at h
    refine lv_aload_n C.1 C.2.1 dX11_knows_14 rfl (lv_at hl 0 rfl) ?_
    refine gX_0_houses C hX11_knows_0_X11 hK hP mX11_knows_0_1 dX11_knows_15 ?_
    refine gX_11_prints C hX11_knows_0_X2 hK hP mX11_knows_0_3 dX11_knows_18 ?_
    exact wGX11_knows_0_21 C hK hJ _ _ _ _ _ _ _ _ _ h hP hS hl
  · rw [if_neg c1] at h
    refine lv_aload_n C.1 C.2.1 dX11_knows_4 rfl (lv_at hl 0 rfl) ?_
    refine gX_0_houses C hX11_knows_0_X11 hK hP mX11_knows_0_1 dX11_knows_5 ?_
    refine gX_11_papers C hX11_knows_0_X2 hK hP mX11_knows_0_4 dX11_knows_8 ?_
    refine lv_goto (tgt := 21) C.1 C.2.1 dX11_knows_11 (by decide) ?_
    exact wGX11_knows_0_21 C hK hJ _ _ _ _ _ _ _ _ _ h hP hS hl
theorem metX11_knows_0 (l : Launch) (D : va_G) (cy : Nat → ClassId) (ad st : Nat → Nat) (hJ : JX ad st) (sz : Nat) (x1 : Int32) (x2 : Int32) (x3 : Int32) (x4 : Int32) {u : SX} {r : Int32} {u' : SX} (h : fX11_knows_0 x1 x2 x3 x4 u = some (r, u')) : Met l yX11_knows wsX11_knows rmX11_knows_0 (va_Pc [.ref (ad 0), .int x1, .int x2, .int x3, .int x4] (Px D [(cy 0, .int), (cy 1, .long), (cy 2, .boolean), (cy 3, .byte), (cy 4, .object "HissHorn$Text")] st (VX cy ad st) sz u)) (Qi D (VX cy ad st) (AX ad) sz r u') 0 0 (Ax (AX ad) sz) := by
  refine Met.ofW (cc := cX11_knows) (maxL := 8) (ret := (some .int)) (by decide) rfl ?_
  intro p e s m args below meth c s₁ B hml hv
  obtain ⟨rfl, hsz, hP, hK⟩ := hv
  subst hsz
  have C : Cx RX11 cX11_knows 8 (some .int) wsX11_knows p s m _ meth c := ⟨B.exec, B.bytes, hml, B.returns, findClass_of_methodNamed B.named, atoms_spec (ws := wsX11_knows) B.pre, B.notSynchronized⟩
  have hl := lv_entry ([.ref (ad 0), .int x1, .int x2, .int x3, .int x4]) (n := 8) (Nat.le_of_ble_eq_true rfl)
  rw [lg_entry_eq]
  exact wX11_knows_0 C hK hJ x1 x2 x3 x4 h hP va_S.rf hl

theorem zdX2_areMet_52 : (and (and (and (and (and (zk cX2_areMet 52 (.iinc 3 1) 3) (zk cX2_areMet 55 (.goto (-37)) 3)) (and (zk cX2_areMet 18 (.iload_n 3) 1) (zk cX2_areMet 19 (.aload_n 0) 1))) (and (and (zk cX2_areMet 20 (.getfield 54) 3) (zk cX2_areMet 23 (.if_icmp .ge 35) 3)) (and (zk cX2_areMet 58 (.iconst 0) 1) (zk cX2_areMet 59 (.ireturn) 1)))) (and (and (and (zk cX2_areMet 26 (.lload_n 1) 1) (zk cX2_areMet 27 (.iload_n 3) 1)) (and (zk cX2_areMet 28 (.invokestatic 64) 3) (zk cX2_areMet 31 (.land) 1))) (and (and (zk cX2_areMet 32 (.lconst 0) 1) (zk cX2_areMet 33 (.lcmp) 1)) (and (zk cX2_areMet 34 (.ifCond .eq 18) 3) (zk cX2_areMet 37 (.lload_n 1) 1))))) (and (and (and (and (zk cX2_areMet 38 (.aload_n 0) 1) (zk cX2_areMet 39 (.getfield 40) 3)) (and (zk cX2_areMet 42 (.iload_n 3) 1) (zk cX2_areMet 43 (.laload) 1))) (and (and (zk cX2_areMet 44 (.land) 1) (zk cX2_areMet 45 (.lconst 0) 1)) (and (zk cX2_areMet 46 (.lcmp) 1) (zk cX2_areMet 47 (.ifCond .eq 5) 3)))) (and (and (and (zk cX2_areMet 50 (.iconst 1) 1) (zk cX2_areMet 51 (.ireturn) 1)) (and (zk cX2_areMet 0 (.lload_n 1) 1) (zk cX2_areMet 1 (.aload_n 0) 1))) (and (and (zk cX2_areMet 2 (.getfield 75) 3) (zk cX2_areMet 5 (.land) 1)) (and (zk cX2_areMet 6 (.bipush 40) 2) (zk cX2_areMet 8 (.lshr) 1)))))) = true := by decide +kernel
theorem dX2_areMet_52 : decode cX2_areMet 52 = .ok (.iinc 3 1, 3) := zk_of (zk_l (zk_l (zk_l (zk_l (zk_l zdX2_areMet_52)))))
theorem dX2_areMet_55 : decode cX2_areMet 55 = .ok (.goto (-37), 3) := zk_of (zk_r (zk_l (zk_l (zk_l (zk_l zdX2_areMet_52)))))
theorem dX2_areMet_18 : decode cX2_areMet 18 = .ok (.iload_n 3, 1) := zk_of (zk_l (zk_r (zk_l (zk_l (zk_l zdX2_areMet_52)))))
theorem dX2_areMet_19 : decode cX2_areMet 19 = .ok (.aload_n 0, 1) := zk_of (zk_r (zk_r (zk_l (zk_l (zk_l zdX2_areMet_52)))))
theorem dX2_areMet_20 : decode cX2_areMet 20 = .ok (.getfield 54, 3) := zk_of (zk_l (zk_l (zk_r (zk_l (zk_l zdX2_areMet_52)))))
theorem dX2_areMet_23 : decode cX2_areMet 23 = .ok (.if_icmp .ge 35, 3) := zk_of (zk_r (zk_l (zk_r (zk_l (zk_l zdX2_areMet_52)))))
theorem dX2_areMet_58 : decode cX2_areMet 58 = .ok (.iconst 0, 1) := zk_of (zk_l (zk_r (zk_r (zk_l (zk_l zdX2_areMet_52)))))
theorem dX2_areMet_59 : decode cX2_areMet 59 = .ok (.ireturn, 1) := zk_of (zk_r (zk_r (zk_r (zk_l (zk_l zdX2_areMet_52)))))
theorem dX2_areMet_26 : decode cX2_areMet 26 = .ok (.lload_n 1, 1) := zk_of (zk_l (zk_l (zk_l (zk_r (zk_l zdX2_areMet_52)))))
theorem dX2_areMet_27 : decode cX2_areMet 27 = .ok (.iload_n 3, 1) := zk_of (zk_r (zk_l (zk_l (zk_r (zk_l zdX2_areMet_52)))))
theorem dX2_areMet_28 : decode cX2_areMet 28 = .ok (.invokestatic 64, 3) := zk_of (zk_l (zk_r (zk_l (zk_r (zk_l zdX2_areMet_52)))))
theorem dX2_areMet_31 : decode cX2_areMet 31 = .ok (.land, 1) := zk_of (zk_r (zk_r (zk_l (zk_r (zk_l zdX2_areMet_52)))))
theorem dX2_areMet_32 : decode cX2_areMet 32 = .ok (.lconst 0, 1) := zk_of (zk_l (zk_l (zk_r (zk_r (zk_l zdX2_areMet_52)))))
theorem dX2_areMet_33 : decode cX2_areMet 33 = .ok (.lcmp, 1) := zk_of (zk_r (zk_l (zk_r (zk_r (zk_l zdX2_areMet_52)))))
theorem dX2_areMet_34 : decode cX2_areMet 34 = .ok (.ifCond .eq 18, 3) := zk_of (zk_l (zk_r (zk_r (zk_r (zk_l zdX2_areMet_52)))))
theorem dX2_areMet_37 : decode cX2_areMet 37 = .ok (.lload_n 1, 1) := zk_of (zk_r (zk_r (zk_r (zk_r (zk_l zdX2_areMet_52)))))
theorem dX2_areMet_38 : decode cX2_areMet 38 = .ok (.aload_n 0, 1) := zk_of (zk_l (zk_l (zk_l (zk_l (zk_r zdX2_areMet_52)))))
theorem dX2_areMet_39 : decode cX2_areMet 39 = .ok (.getfield 40, 3) := zk_of (zk_r (zk_l (zk_l (zk_l (zk_r zdX2_areMet_52)))))
theorem dX2_areMet_42 : decode cX2_areMet 42 = .ok (.iload_n 3, 1) := zk_of (zk_l (zk_r (zk_l (zk_l (zk_r zdX2_areMet_52)))))
theorem dX2_areMet_43 : decode cX2_areMet 43 = .ok (.laload, 1) := zk_of (zk_r (zk_r (zk_l (zk_l (zk_r zdX2_areMet_52)))))
theorem dX2_areMet_44 : decode cX2_areMet 44 = .ok (.land, 1) := zk_of (zk_l (zk_l (zk_r (zk_l (zk_r zdX2_areMet_52)))))
theorem dX2_areMet_45 : decode cX2_areMet 45 = .ok (.lconst 0, 1) := zk_of (zk_r (zk_l (zk_r (zk_l (zk_r zdX2_areMet_52)))))
theorem dX2_areMet_46 : decode cX2_areMet 46 = .ok (.lcmp, 1) := zk_of (zk_l (zk_r (zk_r (zk_l (zk_r zdX2_areMet_52)))))
theorem dX2_areMet_47 : decode cX2_areMet 47 = .ok (.ifCond .eq 5, 3) := zk_of (zk_r (zk_r (zk_r (zk_l (zk_r zdX2_areMet_52)))))
theorem dX2_areMet_50 : decode cX2_areMet 50 = .ok (.iconst 1, 1) := zk_of (zk_l (zk_l (zk_l (zk_r (zk_r zdX2_areMet_52)))))
theorem dX2_areMet_51 : decode cX2_areMet 51 = .ok (.ireturn, 1) := zk_of (zk_r (zk_l (zk_l (zk_r (zk_r zdX2_areMet_52)))))
theorem dX2_areMet_0 : decode cX2_areMet 0 = .ok (.lload_n 1, 1) := zk_of (zk_l (zk_r (zk_l (zk_r (zk_r zdX2_areMet_52)))))
theorem dX2_areMet_1 : decode cX2_areMet 1 = .ok (.aload_n 0, 1) := zk_of (zk_r (zk_r (zk_l (zk_r (zk_r zdX2_areMet_52)))))
theorem dX2_areMet_2 : decode cX2_areMet 2 = .ok (.getfield 75, 3) := zk_of (zk_l (zk_l (zk_r (zk_r (zk_r zdX2_areMet_52)))))
theorem dX2_areMet_5 : decode cX2_areMet 5 = .ok (.land, 1) := zk_of (zk_r (zk_l (zk_r (zk_r (zk_r zdX2_areMet_52)))))
theorem dX2_areMet_6 : decode cX2_areMet 6 = .ok (.bipush 40, 2) := zk_of (zk_l (zk_r (zk_r (zk_r (zk_r zdX2_areMet_52)))))
theorem dX2_areMet_8 : decode cX2_areMet 8 = .ok (.lshr, 1) := zk_of (zk_r (zk_r (zk_r (zk_r (zk_r zdX2_areMet_52)))))
set_option maxRecDepth 20000 in
theorem ggX2_areMet_X2_printBit : GoodIn wsX2_areMet wsX2_printBit := ggi (fun w h => List.mem_cons_of_mem _ (List.mem_append_left _ (List.mem_append_right _ h))) gs_X2_printBit
set_option maxRecDepth 20000 in
theorem gX2_areMet_X2_printBit : GoodIn wsX2_areMet (va_wsS RX2 64 yX2_printBit wsX2_printBit) := goodIn_app (goodIn_of _ (by decide +kernel)) ggX2_areMet_X2_printBit
theorem zdX2_areMet_9 : (and (and (and (zk cX2_areMet 9 (.lconst 0) 1) (zk cX2_areMet 10 (.lcmp) 1)) (and (zk cX2_areMet 11 (.ifCond .ne 5) 3) (zk cX2_areMet 16 (.iconst 0) 1))) (and (and (zk cX2_areMet 17 (.istore_n 3) 1) (zk cX2_areMet 14 (.iconst 0) 1)) (zk cX2_areMet 15 (.ireturn) 1))) = true := by decide +kernel
theorem dX2_areMet_9 : decode cX2_areMet 9 = .ok (.lconst 0, 1) := zk_of (zk_l (zk_l (zk_l zdX2_areMet_9)))
theorem dX2_areMet_10 : decode cX2_areMet 10 = .ok (.lcmp, 1) := zk_of (zk_r (zk_l (zk_l zdX2_areMet_9)))
theorem dX2_areMet_11 : decode cX2_areMet 11 = .ok (.ifCond .ne 5, 3) := zk_of (zk_l (zk_r (zk_l zdX2_areMet_9)))
theorem dX2_areMet_16 : decode cX2_areMet 16 = .ok (.iconst 0, 1) := zk_of (zk_r (zk_r (zk_l zdX2_areMet_9)))
theorem dX2_areMet_17 : decode cX2_areMet 17 = .ok (.istore_n 3, 1) := zk_of (zk_l (zk_l (zk_r zdX2_areMet_9)))
theorem dX2_areMet_14 : decode cX2_areMet 14 = .ok (.iconst 0, 1) := zk_of (zk_r (zk_l (zk_r zdX2_areMet_9)))
theorem dX2_areMet_15 : decode cX2_areMet 15 = .ok (.ireturn, 1) := zk_of (zk_r (zk_r zdX2_areMet_9))
/-- HissHorn$Houses.areMet(J)Z of cell 11 -/
def rmX2_areMet_11 : Room := { frames := 1, cells := 0, slots := 0, locals := 20 }
theorem hX2_areMet_11_X2 : ∀ w ∈ u_ws RX2 TX2 18, w ∈ wsX2_areMet := fun w h => (List.mem_cons_of_mem _ (List.mem_append_right _ h))
theorem mX2_areMet_11_1 : Cond.fieldLink RX2 75 "HissHorn$Houses" "matters" "J" ∈ wsX2_areMet := (List.mem_cons_of_mem _ (List.mem_append_left _ (List.mem_append_left _ (List.mem_of_getElem? (i := 3) rfl))))
theorem mX2_areMet_11_2 : Cond.fieldLink RX2 54 "HissHorn$Houses" "prints" "I" ∈ wsX2_areMet := (List.mem_cons_of_mem _ (List.mem_append_left _ (List.mem_append_left _ (List.mem_of_getElem? (i := 4) rfl))))
def GX2_areMet_11_52 (k18 : Int64 → Int32 → SX → Option (Int32 × SX)) (z1 : Int64) (z3 : Int32) (u : SX) : Option (Int32 × SX) := (k18 z1 (z3 + 1) u)
theorem mX2_areMet_11_3 : Cond.fieldLink RX2 40 "HissHorn$Houses" "meets" "[J" ∈ wsX2_areMet := (List.mem_cons_of_mem _ (List.mem_append_left _ (List.mem_append_left _ (List.mem_of_getElem? (i := 5) rfl))))
def LX2_areMet_11_18  : Nat → Int64 → Int32 → SX → Option (Int32 × SX)
  | 0, _, _, _ => none
  | n + 1, z1, z3, u => (if (u.1 36) ≤ z3 then (gd (isB 0) (some (0, u))) else ((fX2_printBit z3).bind fun r2 => (if (lg_cmp (z1 &&& r2) 0) = 0 then (GX2_areMet_11_52 (LX2_areMet_11_18 n) z1 z3 u) else (gd (inb z3 40) (if (lg_cmp (z1 &&& (u.2.2.2.1 68 z3.toNatClampNeg)) 0) = 0 then (GX2_areMet_11_52 (LX2_areMet_11_18 n) z1 z3 u) else (gd (isB 1) (some (1, u))))))))
def fX2_areMet_11 (x1 : Int64) (u : SX) : Option (Int32 × SX) := (if (lg_cmp ((x1 &&& (u.2.2.1 0)) >>> ((40 : Int32).toInt64 &&& 63)) 0) = 0 then (gd (isB 0) (some (0, u))) else (LX2_areMet_11_18  5000 x1 0 u))
set_option maxHeartbeats 4000000 in
set_option maxRecDepth 100000 in
theorem wGX2_areMet_11_52 {p : Program} {l : Launch} {e : Env} {s : State} {m : MethodId} {args : Array Value} {below : List Frame} {meth : Method} {c : Code} {D : va_G} {cy : Nat → ClassId} {ad st : Nat → Nat} (C : Cx RX2 cX2_areMet 4 (some .boolean) wsX2_areMet p s m args meth c) (hK : Ky D [(cy 0, .int), (cy 1, .long), (cy 2, .boolean), (cy 3, .byte), (cy 4, .object "HissHorn$Text")] st s) (hJ : JX ad st) {r : Int32} {u' : SX} {k18 : Int64 → Int32 → SX → Option (Int32 × SX)} (hk18 : ∀ (z1 : Int64) (z3 : Int32) (u : SX) (H : Heap) (locs : List Loc) (ls : Array Slot), k18 z1 z3 u = some (r, u') → va_P D vwCl (VX cy ad st u) H → va_S (Ax (AX ad) s.heap.size) s.heap H locs → lv_has ls 4 [(0, .ref (ad 11)), (1, .long z1), (3, .int z3)] → W p l e rmX2_areMet_11 s m args below meth c H locs 0 0 (MQ below (Qi D (VX cy ad st) (AX ad) s.heap.size r u') args s 0 0 (Ax (AX ad) s.heap.size)) (F0 m 18 ls [])) (z1 : Int64) (z3 : Int32) (u : SX) (H : Heap) (locs : List Loc) (ls : Array Slot) (h : GX2_areMet_11_52 k18 z1 z3 u = some (r, u')) (hP : va_P D vwCl (VX cy ad st u) H) (hS : va_S (Ax (AX ad) s.heap.size) s.heap H locs) (hl : lv_has ls 4 [(0, .ref (ad 11)), (1, .long z1), (3, .int z3)]) : W p l e rmX2_areMet_11 s m args below meth c H locs 0 0 (MQ below (Qi D (VX cy ad st) (AX ad) s.heap.size r u') args s 0 0 (Ax (AX ad) s.heap.size)) (F0 m 52 ls []) := by
  unfold GX2_areMet_11_52 at h
  refine lv_iinc (v := z3 + 1) (lv' := [(3, .int (z3 + 1)), (0, .ref (ad 11)), (1, .long z1)]) C.1 C.2.1 dX2_areMet_52 hl (k := 2) rfl rfl (by decide) rfl (fun ls hl => ?_)
  replace hl := lv_sub (l' := [(0, .ref (ad 11)), (1, .long z1), (3, .int (z3 + 1))]) hl [1, 2, 0] rfl
  refine lv_goto (tgt := 18) C.1 C.2.1 dX2_areMet_55 (by decide) ?_
  exact hk18 _ _ _ _ _ _ h hP hS hl
set_option maxHeartbeats 4000000 in
set_option maxRecDepth 100000 in
theorem wLX2_areMet_11_18 {p : Program} {l : Launch} {e : Env} {s : State} {m : MethodId} {args : Array Value} {below : List Frame} {meth : Method} {c : Code} {D : va_G} {cy : Nat → ClassId} {ad st : Nat → Nat} (C : Cx RX2 cX2_areMet 4 (some .boolean) wsX2_areMet p s m args meth c) (hK : Ky D [(cy 0, .int), (cy 1, .long), (cy 2, .boolean), (cy 3, .byte), (cy 4, .object "HissHorn$Text")] st s) (hJ : JX ad st) {r : Int32} {u' : SX}   : ∀ (n : Nat) (z1 : Int64) (z3 : Int32) (u : SX) (H : Heap) (locs : List Loc) (ls : Array Slot), LX2_areMet_11_18  n z1 z3 u = some (r, u') → va_P D vwCl (VX cy ad st u) H → va_S (Ax (AX ad) s.heap.size) s.heap H locs → lv_has ls 4 [(0, .ref (ad 11)), (1, .long z1), (3, .int z3)] → W p l e rmX2_areMet_11 s m args below meth c H locs 0 0 (MQ below (Qi D (VX cy ad st) (AX ad) s.heap.size r u') args s 0 0 (Ax (AX ad) s.heap.size)) (F0 m 18 ls []) := by
  intro n
  induction n with
  | zero =>
    intro z1 z3 u H locs ls h
    exact absurd h (by intro q; cases q)
  | succ n ih =>
    intro z1 z3 u H locs ls h hP hS hl
    rw [LX2_areMet_11_18] at h
    refine lv_iload_n C.1 C.2.1 dX2_areMet_18 rfl (lv_at hl 2 rfl) ?_
    refine lv_aload_n C.1 C.2.1 dX2_areMet_19 rfl (lv_at hl 0 rfl) ?_
    refine gX_11_prints C hX2_areMet_11_X2 hK hP mX2_areMet_11_2 dX2_areMet_20 ?_
    refine lv_icmp_ge (tgt := 58) C.1 C.2.1 dX2_areMet_23 (by decide) (fun c23 => ?_) (fun c23 => ?_)
    · rw [if_pos c23] at h
      refine lv_iconst (v := 0) C.1 C.2.1 dX2_areMet_58 (by decide) ?_
      obtain ⟨hg1, h⟩ := gd_some h
      cases h
      exact rt_z hg1 C hP hS dX2_areMet_59
    · rw [if_neg c23] at h
      refine lv_lload_n C.1 C.2.1 dX2_areMet_26 rfl (lv_at hl 1 rfl) ?_
      refine lv_iload_n C.1 C.2.1 dX2_areMet_27 rfl (lv_at hl 2 rfl) ?_
      obtain ⟨r2, hc4, h⟩ := bd_some h
      refine cs_l (As := [.int z3]) (rest := [.long z1]) (AX_ge hJ) C hK hP hS (metX2_printBit l D cy st _ z3 hc4) (va_cwS 1 C.2.2.2.2.2.1 gX2_areMet_X2_printBit rfl rfl rfl (by decide +kernel) ⟨(Nat.le_of_ble_eq_true rfl), (Nat.le_of_ble_eq_true rfl)⟩) rfl hl.1 rfl (Nat.le_of_ble_eq_true rfl) dX2_areMet_28 ⟨Nat.zero_le _, Nat.zero_le _⟩ (fun H locs hP hS => ?_)
      refine lv_land C.1 C.2.1 dX2_areMet_31 ?_
      refine lv_lconst (v := 0) C.1 C.2.1 dX2_areMet_32 (by decide) ?_
      refine W.lcmp C.1 C.2.1 dX2_areMet_33 ?_
      refine lv_if_eq (tgt := 52) C.1 C.2.1 dX2_areMet_34 (by decide) (fun c34 => ?_) (fun c34 => ?_)
      · rw [if_pos c34] at h
        exact wGX2_areMet_11_52 C hK hJ ih _ _ _ _ _ _ h hP hS hl
      · rw [if_neg c34] at h
        refine lv_lload_n C.1 C.2.1 dX2_areMet_37 rfl (lv_at hl 1 rfl) ?_
        refine lv_aload_n C.1 C.2.1 dX2_areMet_38 rfl (lv_at hl 0 rfl) ?_
        refine gX_11_meets C hX2_areMet_11_X2 hK hP mX2_areMet_11_3 dX2_areMet_39 ?_
        refine lv_iload_n C.1 C.2.1 dX2_areMet_42 rfl (lv_at hl 2 rfl) ?_
        obtain ⟨hg5, h⟩ := gd_some h
        refine lX_68 C hK hP hg5 dX2_areMet_43 ?_
        refine lv_land C.1 C.2.1 dX2_areMet_44 ?_
        refine lv_lconst (v := 0) C.1 C.2.1 dX2_areMet_45 (by decide) ?_
        refine W.lcmp C.1 C.2.1 dX2_areMet_46 ?_
        refine lv_if_eq (tgt := 52) C.1 C.2.1 dX2_areMet_47 (by decide) (fun c47 => ?_) (fun c47 => ?_)
        · rw [if_pos c47] at h
          exact wGX2_areMet_11_52 C hK hJ ih _ _ _ _ _ _ h hP hS hl
        · rw [if_neg c47] at h
          refine lv_iconst (v := 1) C.1 C.2.1 dX2_areMet_50 (by decide) ?_
          obtain ⟨hg6, h⟩ := gd_some h
          cases h
          exact rt_z hg6 C hP hS dX2_areMet_51
set_option maxHeartbeats 4000000 in
set_option maxRecDepth 100000 in
theorem wX2_areMet_11 {p : Program} {l : Launch} {e : Env} {s : State} {m : MethodId} {args : Array Value} {below : List Frame} {meth : Method} {c : Code} {D : va_G} {cy : Nat → ClassId} {ad st : Nat → Nat} (C : Cx RX2 cX2_areMet 4 (some .boolean) wsX2_areMet p s m args meth c) (hK : Ky D [(cy 0, .int), (cy 1, .long), (cy 2, .boolean), (cy 3, .byte), (cy 4, .object "HissHorn$Text")] st s) (hJ : JX ad st) (x1 : Int64) {u : SX} {r : Int32} {u' : SX} {H : Heap} {locs : List Loc} {ls : Array Slot} (h : fX2_areMet_11 x1 u = some (r, u')) (hP : va_P D vwCl (VX cy ad st u) H) (hS : va_S (Ax (AX ad) s.heap.size) s.heap H locs) (hl : lv_has ls 4 [(0, .ref (ad 11)), (1, .long x1)]) : W p l e rmX2_areMet_11 s m args below meth c H locs 0 0 (MQ below (Qi D (VX cy ad st) (AX ad) s.heap.size r u') args s 0 0 (Ax (AX ad) s.heap.size)) (F0 m 0 ls []) := by
  unfold fX2_areMet_11 at h
  refine lv_lload_n C.1 C.2.1 dX2_areMet_0 rfl (lv_at hl 1 rfl) ?_
  refine lv_aload_n C.1 C.2.1 dX2_areMet_1 rfl (lv_at hl 0 rfl) ?_
  refine gX_11_matters C hX2_areMet_11_X2 hK hP mX2_areMet_11_1 dX2_areMet_2 ?_
  refine lv_land C.1 C.2.1 dX2_areMet_5 ?_
  refine lv_bipush (v := 40) C.1 C.2.1 dX2_areMet_6 (by decide) ?_
  refine lv_lshr (v := (x1 &&& (u.2.2.1 0)) >>> ((40 : Int32).toInt64 &&& 63)) C.1 C.2.1 dX2_areMet_8 rfl ?_
  refine lv_lconst (v := 0) C.1 C.2.1 dX2_areMet_9 (by decide) ?_
  refine W.lcmp C.1 C.2.1 dX2_areMet_10 ?_
  refine lv_if_ne (tgt := 16) C.1 C.2.1 dX2_areMet_11 (by decide) (fun c11 => ?_) (fun c11 => ?_)
  · rw [if_neg c11] at h
    refine lv_iconst (v := 0) C.1 C.2.1 dX2_areMet_16 (by decide) ?_
    refine lv_istore_n (lv' := [(3, .int 0), (0, .ref (ad 11)), (1, .long x1)]) C.1 C.2.1 dX2_areMet_17 rfl hl (by decide) rfl (fun ls hl => ?_)
    replace hl := lv_sub (l' := [(0, .ref (ad 11)), (1, .long x1), (3, .int 0)]) hl [1, 2, 0] rfl
    exact wLX2_areMet_11_18 C hK hJ  5000 _ _ _ _ _ _ h hP hS hl
  · rw [if_pos c11] at h
    refine lv_iconst (v := 0) C.1 C.2.1 dX2_areMet_14 (by decide) ?_
    obtain ⟨hg7, h⟩ := gd_some h
    cases h
    exact rt_z hg7 C hP hS dX2_areMet_15
theorem metX2_areMet_11 (l : Launch) (D : va_G) (cy : Nat → ClassId) (ad st : Nat → Nat) (hJ : JX ad st) (sz : Nat) (x1 : Int64) {u : SX} {r : Int32} {u' : SX} (h : fX2_areMet_11 x1 u = some (r, u')) : Met l yX2_areMet wsX2_areMet rmX2_areMet_11 (va_Pc [.ref (ad 11), .long x1] (Px D [(cy 0, .int), (cy 1, .long), (cy 2, .boolean), (cy 3, .byte), (cy 4, .object "HissHorn$Text")] st (VX cy ad st) sz u)) (Qi D (VX cy ad st) (AX ad) sz r u') 0 0 (Ax (AX ad) sz) := by
  refine Met.ofW (cc := cX2_areMet) (maxL := 4) (ret := (some .boolean)) (by decide) rfl ?_
  intro p e s m args below meth c s₁ B hml hv
  obtain ⟨rfl, hsz, hP, hK⟩ := hv
  subst hsz
  have C : Cx RX2 cX2_areMet 4 (some .boolean) wsX2_areMet p s m _ meth c := ⟨B.exec, B.bytes, hml, B.returns, findClass_of_methodNamed B.named, atoms_spec (ws := wsX2_areMet) B.pre, B.notSynchronized⟩
  have hl := lv_entry ([.ref (ad 11), .long x1]) (n := 4) (Nat.le_of_ble_eq_true rfl)
  rw [lg_entry_eq]
  exact wX2_areMet_11 C hK hJ x1 h hP va_S.rf hl

theorem zdX4_firstDay_9 : (and (and (and (and (and (zk cX4_firstDay 9 (.aload_n 0) 1) (zk cX4_firstDay 10 (.getfield 18) 3)) (and (zk cX4_firstDay 13 (.getfield 22) 3) (zk cX4_firstDay 16 (.iload_n 2) 1))) (and (and (zk cX4_firstDay 17 (.baload) 1) (zk cX4_firstDay 18 (.ifCond .eq 41) 3)) (and (zk cX4_firstDay 21 (.iload_n 3) 1) (zk cX4_firstDay 22 (.aload_n 0) 1)))) (and (and (and (zk cX4_firstDay 23 (.getfield 18) 3) (zk cX4_firstDay 26 (.getfield 28) 3)) (and (zk cX4_firstDay 29 (.if_icmp .ge 30) 3) (zk cX4_firstDay 32 (.aload_n 0) 1))) (and (and (zk cX4_firstDay 33 (.getfield 18) 3) (zk cX4_firstDay 36 (.aload_n 0) 1)) (and (zk cX4_firstDay 37 (.getfield 18) 3) (zk cX4_firstDay 40 (.iload_n 3) 1))))) (and (and (and (and (zk cX4_firstDay 41 (.iload_n 2) 1) (zk cX4_firstDay 42 (.invokevirtual 32) 3)) (and (zk cX4_firstDay 45 (.invokevirtual 36) 3) (zk cX4_firstDay 48 (.ifCond .eq 5) 3))) (and (and (zk cX4_firstDay 53 (.iinc 3 1) 3) (zk cX4_firstDay 56 (.goto (-47)) 3)) (and (zk cX4_firstDay 51 (.iload_n 2) 1) (zk cX4_firstDay 52 (.ireturn) 1)))) (and (and (and (zk cX4_firstDay 59 (.iinc 2 1) 3) (zk cX4_firstDay 62 (.goto (-60)) 3)) (and (zk cX4_firstDay 2 (.iload_n 2) 1) (zk cX4_firstDay 3 (.iload_n 1) 1))) (and (and (zk cX4_firstDay 4 (.if_icmp .gt 61) 3) (zk cX4_firstDay 65 (.iconst (-1)) 1)) (and (zk cX4_firstDay 66 (.ireturn) 1) (zk cX4_firstDay 7 (.iconst 0) 1)))))) = true := by decide +kernel
theorem dX4_firstDay_9 : decode cX4_firstDay 9 = .ok (.aload_n 0, 1) := zk_of (zk_l (zk_l (zk_l (zk_l (zk_l zdX4_firstDay_9)))))
theorem dX4_firstDay_10 : decode cX4_firstDay 10 = .ok (.getfield 18, 3) := zk_of (zk_r (zk_l (zk_l (zk_l (zk_l zdX4_firstDay_9)))))
theorem dX4_firstDay_13 : decode cX4_firstDay 13 = .ok (.getfield 22, 3) := zk_of (zk_l (zk_r (zk_l (zk_l (zk_l zdX4_firstDay_9)))))
theorem dX4_firstDay_16 : decode cX4_firstDay 16 = .ok (.iload_n 2, 1) := zk_of (zk_r (zk_r (zk_l (zk_l (zk_l zdX4_firstDay_9)))))
theorem dX4_firstDay_17 : decode cX4_firstDay 17 = .ok (.baload, 1) := zk_of (zk_l (zk_l (zk_r (zk_l (zk_l zdX4_firstDay_9)))))
theorem dX4_firstDay_18 : decode cX4_firstDay 18 = .ok (.ifCond .eq 41, 3) := zk_of (zk_r (zk_l (zk_r (zk_l (zk_l zdX4_firstDay_9)))))
theorem dX4_firstDay_21 : decode cX4_firstDay 21 = .ok (.iload_n 3, 1) := zk_of (zk_l (zk_r (zk_r (zk_l (zk_l zdX4_firstDay_9)))))
theorem dX4_firstDay_22 : decode cX4_firstDay 22 = .ok (.aload_n 0, 1) := zk_of (zk_r (zk_r (zk_r (zk_l (zk_l zdX4_firstDay_9)))))
theorem dX4_firstDay_23 : decode cX4_firstDay 23 = .ok (.getfield 18, 3) := zk_of (zk_l (zk_l (zk_l (zk_r (zk_l zdX4_firstDay_9)))))
theorem dX4_firstDay_26 : decode cX4_firstDay 26 = .ok (.getfield 28, 3) := zk_of (zk_r (zk_l (zk_l (zk_r (zk_l zdX4_firstDay_9)))))
theorem dX4_firstDay_29 : decode cX4_firstDay 29 = .ok (.if_icmp .ge 30, 3) := zk_of (zk_l (zk_r (zk_l (zk_r (zk_l zdX4_firstDay_9)))))
theorem dX4_firstDay_32 : decode cX4_firstDay 32 = .ok (.aload_n 0, 1) := zk_of (zk_r (zk_r (zk_l (zk_r (zk_l zdX4_firstDay_9)))))
theorem dX4_firstDay_33 : decode cX4_firstDay 33 = .ok (.getfield 18, 3) := zk_of (zk_l (zk_l (zk_r (zk_r (zk_l zdX4_firstDay_9)))))
theorem dX4_firstDay_36 : decode cX4_firstDay 36 = .ok (.aload_n 0, 1) := zk_of (zk_r (zk_l (zk_r (zk_r (zk_l zdX4_firstDay_9)))))
theorem dX4_firstDay_37 : decode cX4_firstDay 37 = .ok (.getfield 18, 3) := zk_of (zk_l (zk_r (zk_r (zk_r (zk_l zdX4_firstDay_9)))))
theorem dX4_firstDay_40 : decode cX4_firstDay 40 = .ok (.iload_n 3, 1) := zk_of (zk_r (zk_r (zk_r (zk_r (zk_l zdX4_firstDay_9)))))
theorem dX4_firstDay_41 : decode cX4_firstDay 41 = .ok (.iload_n 2, 1) := zk_of (zk_l (zk_l (zk_l (zk_l (zk_r zdX4_firstDay_9)))))
theorem dX4_firstDay_42 : decode cX4_firstDay 42 = .ok (.invokevirtual 32, 3) := zk_of (zk_r (zk_l (zk_l (zk_l (zk_r zdX4_firstDay_9)))))
theorem dX4_firstDay_45 : decode cX4_firstDay 45 = .ok (.invokevirtual 36, 3) := zk_of (zk_l (zk_r (zk_l (zk_l (zk_r zdX4_firstDay_9)))))
theorem dX4_firstDay_48 : decode cX4_firstDay 48 = .ok (.ifCond .eq 5, 3) := zk_of (zk_r (zk_r (zk_l (zk_l (zk_r zdX4_firstDay_9)))))
theorem dX4_firstDay_53 : decode cX4_firstDay 53 = .ok (.iinc 3 1, 3) := zk_of (zk_l (zk_l (zk_r (zk_l (zk_r zdX4_firstDay_9)))))
theorem dX4_firstDay_56 : decode cX4_firstDay 56 = .ok (.goto (-47), 3) := zk_of (zk_r (zk_l (zk_r (zk_l (zk_r zdX4_firstDay_9)))))
theorem dX4_firstDay_51 : decode cX4_firstDay 51 = .ok (.iload_n 2, 1) := zk_of (zk_l (zk_r (zk_r (zk_l (zk_r zdX4_firstDay_9)))))
theorem dX4_firstDay_52 : decode cX4_firstDay 52 = .ok (.ireturn, 1) := zk_of (zk_r (zk_r (zk_r (zk_l (zk_r zdX4_firstDay_9)))))
theorem dX4_firstDay_59 : decode cX4_firstDay 59 = .ok (.iinc 2 1, 3) := zk_of (zk_l (zk_l (zk_l (zk_r (zk_r zdX4_firstDay_9)))))
theorem dX4_firstDay_62 : decode cX4_firstDay 62 = .ok (.goto (-60), 3) := zk_of (zk_r (zk_l (zk_l (zk_r (zk_r zdX4_firstDay_9)))))
theorem dX4_firstDay_2 : decode cX4_firstDay 2 = .ok (.iload_n 2, 1) := zk_of (zk_l (zk_r (zk_l (zk_r (zk_r zdX4_firstDay_9)))))
theorem dX4_firstDay_3 : decode cX4_firstDay 3 = .ok (.iload_n 1, 1) := zk_of (zk_r (zk_r (zk_l (zk_r (zk_r zdX4_firstDay_9)))))
theorem dX4_firstDay_4 : decode cX4_firstDay 4 = .ok (.if_icmp .gt 61, 3) := zk_of (zk_l (zk_l (zk_r (zk_r (zk_r zdX4_firstDay_9)))))
theorem dX4_firstDay_65 : decode cX4_firstDay 65 = .ok (.iconst (-1), 1) := zk_of (zk_r (zk_l (zk_r (zk_r (zk_r zdX4_firstDay_9)))))
theorem dX4_firstDay_66 : decode cX4_firstDay 66 = .ok (.ireturn, 1) := zk_of (zk_l (zk_r (zk_r (zk_r (zk_r zdX4_firstDay_9)))))
theorem dX4_firstDay_7 : decode cX4_firstDay 7 = .ok (.iconst 0, 1) := zk_of (zk_r (zk_r (zk_r (zk_r (zk_r zdX4_firstDay_9)))))
set_option maxRecDepth 20000 in
theorem ggX4_firstDay_X2_knownBy : GoodIn wsX4_firstDay wsX2_knownBy := ggi (fun w h => List.mem_cons_of_mem _ (List.mem_append_left _ (List.mem_append_left _ (List.mem_append_right _ (List.mem_append_left _ h))))) gs_X2_knownBy
set_option maxRecDepth 20000 in
theorem gX4_firstDay_X2_knownBy : GoodIn wsX4_firstDay (wsV RX4 32 RX2 yX2_knownBy wsX2_knownBy) := goodIn_app (goodIn_of _ (by decide +kernel)) ggX4_firstDay_X2_knownBy
set_option maxRecDepth 20000 in
theorem ggX4_firstDay_X2_areMet : GoodIn wsX4_firstDay wsX2_areMet := ggi (fun w h => List.mem_cons_of_mem _ (List.mem_append_left _ (List.mem_append_left _ (List.mem_append_right _ (List.mem_append_right _ h))))) gs_X2_areMet
set_option maxRecDepth 20000 in
theorem gX4_firstDay_X2_areMet : GoodIn wsX4_firstDay (wsV RX4 36 RX2 yX2_areMet wsX2_areMet) := goodIn_app (goodIn_of _ (by decide +kernel)) ggX4_firstDay_X2_areMet
theorem zdX4_firstDay_8 : (and (and (zk cX4_firstDay 8 (.istore_n 3) 1) (zk cX4_firstDay 0 (.iconst 0) 1)) (zk cX4_firstDay 1 (.istore_n 2) 1)) = true := by decide +kernel
theorem dX4_firstDay_8 : decode cX4_firstDay 8 = .ok (.istore_n 3, 1) := zk_of (zk_l (zk_l zdX4_firstDay_8))
theorem dX4_firstDay_0 : decode cX4_firstDay 0 = .ok (.iconst 0, 1) := zk_of (zk_r (zk_l zdX4_firstDay_8))
theorem dX4_firstDay_1 : decode cX4_firstDay 1 = .ok (.istore_n 2, 1) := zk_of (zk_r zdX4_firstDay_8)
/-- HissHorn$Meeting.firstDay(I)I of cell 12 -/
def rmX4_firstDay_12 : Room := { frames := 2, cells := 0, slots := 0, locals := 43 }
theorem hX4_firstDay_12_X4 : ∀ w ∈ u_ws RX4 TX4 7, w ∈ wsX4_firstDay := fun w h => (List.mem_cons_of_mem _ (List.mem_append_left _ (List.mem_append_right _ h)))
theorem mX4_firstDay_12_1 : Cond.fieldLink RX4 18 "HissHorn$Meeting" "houses" "LHissHorn$Houses;" ∈ wsX4_firstDay := (List.mem_cons_of_mem _ (List.mem_append_left _ (List.mem_append_left _ (List.mem_append_left _ (List.mem_of_getElem? (i := 7) rfl)))))
theorem hX4_firstDay_12_X2 : ∀ w ∈ u_ws RX2 TX2 18, w ∈ wsX4_firstDay := fun w h => (List.mem_cons_of_mem _ (List.mem_append_right _ h))
theorem mX4_firstDay_12_3 : Cond.fieldLink RX4 22 "HissHorn$Houses" "busy" "[Z" ∈ wsX4_firstDay := (List.mem_cons_of_mem _ (List.mem_append_left _ (List.mem_append_left _ (List.mem_append_left _ (List.mem_of_getElem? (i := 8) rfl)))))
theorem mX4_firstDay_12_4 : Cond.fieldLink RX4 28 "HissHorn$Houses" "size" "I" ∈ wsX4_firstDay := (List.mem_cons_of_mem _ (List.mem_append_left _ (List.mem_append_left _ (List.mem_append_left _ (List.mem_of_getElem? (i := 9) rfl)))))
def LX4_firstDay_12_9 (k59 : Int32 → Int32 → SX → Option (Int32 × SX)) : Nat → Int32 → Int32 → Int32 → SX → Option (Int32 × SX)
  | 0, _, _, _, _ => none
  | n + 1, z1, z2, z3, u => (gd (inb z2 121) (if (u.2.1 59 z2.toNatClampNeg) = 0 then (k59 z1 z2 u) else (if (u.1 35) ≤ z3 then (k59 z1 z2 u) else ((fX2_knownBy_11 z3 z2 u).bind fun q => match q with | (r2, u3) => ((fX2_areMet_11 r2 u3).bind fun q => match q with | (r5, u6) => (if r5 = 0 then ((LX4_firstDay_12_9 k59 n) z1 z2 (z3 + 1) u6) else (some (z2, u6))))))))
def GX4_firstDay_12_59 (k2 : Int32 → Int32 → SX → Option (Int32 × SX)) (z1 : Int32) (z2 : Int32) (u : SX) : Option (Int32 × SX) := (k2 z1 (z2 + 1) u)
def LX4_firstDay_12_2  : Nat → Int32 → Int32 → SX → Option (Int32 × SX)
  | 0, _, _, _ => none
  | n + 1, z1, z2, u => (if z1 < z2 then (some ((-1), u)) else (LX4_firstDay_12_9 (GX4_firstDay_12_59 (LX4_firstDay_12_2 n)) 5000 z1 z2 0 u))
def fX4_firstDay_12 (x1 : Int32) (u : SX) : Option (Int32 × SX) := (LX4_firstDay_12_2  5000 x1 0 u)
set_option maxHeartbeats 4000000 in
set_option maxRecDepth 100000 in
theorem wLX4_firstDay_12_9 {p : Program} {l : Launch} {e : Env} {s : State} {m : MethodId} {args : Array Value} {below : List Frame} {meth : Method} {c : Code} {D : va_G} {cy : Nat → ClassId} {ad st : Nat → Nat} (C : Cx RX4 cX4_firstDay 4 (some .int) wsX4_firstDay p s m args meth c) (hK : Ky D [(cy 0, .int), (cy 1, .long), (cy 2, .boolean), (cy 3, .byte), (cy 4, .object "HissHorn$Text")] st s) (hJ : JX ad st) {r : Int32} {u' : SX} {k59 : Int32 → Int32 → SX → Option (Int32 × SX)} (hk59 : ∀ (z1 : Int32) (z2 : Int32) (u : SX) (H : Heap) (locs : List Loc) (ls : Array Slot), k59 z1 z2 u = some (r, u') → va_P D vwCl (VX cy ad st u) H → va_S (Ax (AX ad) s.heap.size) s.heap H locs → lv_has ls 4 [(0, .ref (ad 12)), (1, .int z1), (2, .int z2)] → W p l e rmX4_firstDay_12 s m args below meth c H locs 0 0 (MQ below (Qi D (VX cy ad st) (AX ad) s.heap.size r u') args s 0 0 (Ax (AX ad) s.heap.size)) (F0 m 59 ls [])) : ∀ (n : Nat) (z1 : Int32) (z2 : Int32) (z3 : Int32) (u : SX) (H : Heap) (locs : List Loc) (ls : Array Slot), LX4_firstDay_12_9 k59 n z1 z2 z3 u = some (r, u') → va_P D vwCl (VX cy ad st u) H → va_S (Ax (AX ad) s.heap.size) s.heap H locs → lv_has ls 4 [(0, .ref (ad 12)), (1, .int z1), (2, .int z2), (3, .int z3)] → W p l e rmX4_firstDay_12 s m args below meth c H locs 0 0 (MQ below (Qi D (VX cy ad st) (AX ad) s.heap.size r u') args s 0 0 (Ax (AX ad) s.heap.size)) (F0 m 9 ls []) := by
  intro n
  induction n with
  | zero =>
    intro z1 z2 z3 u H locs ls h
    exact absurd h (by intro q; cases q)
  | succ n ih =>
    intro z1 z2 z3 u H locs ls h hP hS hl
    rw [LX4_firstDay_12_9] at h
    refine lv_aload_n C.1 C.2.1 dX4_firstDay_9 rfl (lv_at hl 0 rfl) ?_
    refine gX_12_houses C hX4_firstDay_12_X4 hK hP mX4_firstDay_12_1 dX4_firstDay_10 ?_
    refine gX_11_busy C hX4_firstDay_12_X2 hK hP mX4_firstDay_12_3 dX4_firstDay_13 ?_
    refine lv_iload_n C.1 C.2.1 dX4_firstDay_16 rfl (lv_at hl 2 rfl) ?_
    obtain ⟨hg1, h⟩ := gd_some h
    refine lX_59 C hK hP hg1 dX4_firstDay_17 ?_
    refine lv_if_eq (tgt := 59) C.1 C.2.1 dX4_firstDay_18 (by decide) (fun c18 => ?_) (fun c18 => ?_)
    · rw [if_pos c18] at h
      exact hk59 _ _ _ _ _ _ h hP hS (lv_sub hl [0, 1, 2] rfl)
    · rw [if_neg c18] at h
      refine lv_iload_n C.1 C.2.1 dX4_firstDay_21 rfl (lv_at hl 3 rfl) ?_
      refine lv_aload_n C.1 C.2.1 dX4_firstDay_22 rfl (lv_at hl 0 rfl) ?_
      refine gX_12_houses C hX4_firstDay_12_X4 hK hP mX4_firstDay_12_1 dX4_firstDay_23 ?_
      refine gX_11_size C hX4_firstDay_12_X2 hK hP mX4_firstDay_12_4 dX4_firstDay_26 ?_
      refine lv_icmp_ge (tgt := 59) C.1 C.2.1 dX4_firstDay_29 (by decide) (fun c29 => ?_) (fun c29 => ?_)
      · rw [if_pos c29] at h
        exact hk59 _ _ _ _ _ _ h hP hS (lv_sub hl [0, 1, 2] rfl)
      · rw [if_neg c29] at h
        refine lv_aload_n C.1 C.2.1 dX4_firstDay_32 rfl (lv_at hl 0 rfl) ?_
        refine gX_12_houses C hX4_firstDay_12_X4 hK hP mX4_firstDay_12_1 dX4_firstDay_33 ?_
        refine lv_aload_n C.1 C.2.1 dX4_firstDay_36 rfl (lv_at hl 0 rfl) ?_
        refine gX_12_houses C hX4_firstDay_12_X4 hK hP mX4_firstDay_12_1 dX4_firstDay_37 ?_
        refine lv_iload_n C.1 C.2.1 dX4_firstDay_40 rfl (lv_at hl 3 rfl) ?_
        refine lv_iload_n C.1 C.2.1 dX4_firstDay_41 rfl (lv_at hl 2 rfl) ?_
        obtain ⟨⟨r2, u3⟩, hc4, h⟩ := bd_some h
        try dsimp only at h
        refine cg_l (As := [.int z3, .int z2]) (rest := [.ref (ad 11)]) (AX_ge hJ) C hK hP hS (metX2_knownBy_11 l D cy ad st hJ _ z3 z2 hc4) (cwV 2 C.2.2.2.2.2.1 gX4_firstDay_X2_knownBy rfl rfl rfl (by decide +kernel) ⟨(Nat.le_of_ble_eq_true rfl), (Nat.le_of_ble_eq_true rfl)⟩) 11 2 rfl rfl rfl hl.1 rfl (Nat.le_of_ble_eq_true rfl) dX4_firstDay_42 ⟨Nat.zero_le _, Nat.zero_le _⟩ (fun H locs hP hS => ?_)
        obtain ⟨⟨r5, u6⟩, hc7, h⟩ := bd_some h
        try dsimp only at h
        refine cg_i (As := [.long r2]) (rest := []) (AX_ge hJ) C hK hP hS (metX2_areMet_11 l D cy ad st hJ _ r2 hc7) (cwV 1 C.2.2.2.2.2.1 gX4_firstDay_X2_areMet rfl rfl rfl (by decide +kernel) ⟨(Nat.le_of_ble_eq_true rfl), (Nat.le_of_ble_eq_true rfl)⟩) 11 2 rfl rfl rfl hl.1 rfl (Nat.le_of_ble_eq_true rfl) dX4_firstDay_45 ⟨Nat.zero_le _, Nat.zero_le _⟩ (fun H locs hP hS => ?_)
        refine lv_if_eq (tgt := 53) C.1 C.2.1 dX4_firstDay_48 (by decide) (fun c48 => ?_) (fun c48 => ?_)
        · rw [if_pos c48] at h
          refine lv_iinc (v := z3 + 1) (lv' := [(3, .int (z3 + 1)), (0, .ref (ad 12)), (1, .int z1), (2, .int z2)]) C.1 C.2.1 dX4_firstDay_53 hl (k := 3) rfl rfl (by decide) rfl (fun ls hl => ?_)
          replace hl := lv_sub (l' := [(0, .ref (ad 12)), (1, .int z1), (2, .int z2), (3, .int (z3 + 1))]) hl [1, 2, 3, 0] rfl
          refine lv_goto (tgt := 9) C.1 C.2.1 dX4_firstDay_56 (by decide) ?_
          exact ih _ _ _ _ _ _ _ h hP hS hl
        · rw [if_neg c48] at h
          refine lv_iload_n C.1 C.2.1 dX4_firstDay_51 rfl (lv_at hl 2 rfl) ?_
          cases h
          exact rt_i C hP hS dX4_firstDay_52
set_option maxHeartbeats 4000000 in
set_option maxRecDepth 100000 in
theorem wGX4_firstDay_12_59 {p : Program} {l : Launch} {e : Env} {s : State} {m : MethodId} {args : Array Value} {below : List Frame} {meth : Method} {c : Code} {D : va_G} {cy : Nat → ClassId} {ad st : Nat → Nat} (C : Cx RX4 cX4_firstDay 4 (some .int) wsX4_firstDay p s m args meth c) (hK : Ky D [(cy 0, .int), (cy 1, .long), (cy 2, .boolean), (cy 3, .byte), (cy 4, .object "HissHorn$Text")] st s) (hJ : JX ad st) {r : Int32} {u' : SX} {k2 : Int32 → Int32 → SX → Option (Int32 × SX)} (hk2 : ∀ (z1 : Int32) (z2 : Int32) (u : SX) (H : Heap) (locs : List Loc) (ls : Array Slot), k2 z1 z2 u = some (r, u') → va_P D vwCl (VX cy ad st u) H → va_S (Ax (AX ad) s.heap.size) s.heap H locs → lv_has ls 4 [(0, .ref (ad 12)), (1, .int z1), (2, .int z2)] → W p l e rmX4_firstDay_12 s m args below meth c H locs 0 0 (MQ below (Qi D (VX cy ad st) (AX ad) s.heap.size r u') args s 0 0 (Ax (AX ad) s.heap.size)) (F0 m 2 ls [])) (z1 : Int32) (z2 : Int32) (u : SX) (H : Heap) (locs : List Loc) (ls : Array Slot) (h : GX4_firstDay_12_59 k2 z1 z2 u = some (r, u')) (hP : va_P D vwCl (VX cy ad st u) H) (hS : va_S (Ax (AX ad) s.heap.size) s.heap H locs) (hl : lv_has ls 4 [(0, .ref (ad 12)), (1, .int z1), (2, .int z2)]) : W p l e rmX4_firstDay_12 s m args below meth c H locs 0 0 (MQ below (Qi D (VX cy ad st) (AX ad) s.heap.size r u') args s 0 0 (Ax (AX ad) s.heap.size)) (F0 m 59 ls []) := by
  unfold GX4_firstDay_12_59 at h
  refine lv_iinc (v := z2 + 1) (lv' := [(2, .int (z2 + 1)), (0, .ref (ad 12)), (1, .int z1)]) C.1 C.2.1 dX4_firstDay_59 hl (k := 2) rfl rfl (by decide) rfl (fun ls hl => ?_)
  replace hl := lv_sub (l' := [(0, .ref (ad 12)), (1, .int z1), (2, .int (z2 + 1))]) hl [1, 2, 0] rfl
  refine lv_goto (tgt := 2) C.1 C.2.1 dX4_firstDay_62 (by decide) ?_
  exact hk2 _ _ _ _ _ _ h hP hS hl
set_option maxHeartbeats 4000000 in
set_option maxRecDepth 100000 in
theorem wLX4_firstDay_12_2 {p : Program} {l : Launch} {e : Env} {s : State} {m : MethodId} {args : Array Value} {below : List Frame} {meth : Method} {c : Code} {D : va_G} {cy : Nat → ClassId} {ad st : Nat → Nat} (C : Cx RX4 cX4_firstDay 4 (some .int) wsX4_firstDay p s m args meth c) (hK : Ky D [(cy 0, .int), (cy 1, .long), (cy 2, .boolean), (cy 3, .byte), (cy 4, .object "HissHorn$Text")] st s) (hJ : JX ad st) {r : Int32} {u' : SX}   : ∀ (n : Nat) (z1 : Int32) (z2 : Int32) (u : SX) (H : Heap) (locs : List Loc) (ls : Array Slot), LX4_firstDay_12_2  n z1 z2 u = some (r, u') → va_P D vwCl (VX cy ad st u) H → va_S (Ax (AX ad) s.heap.size) s.heap H locs → lv_has ls 4 [(0, .ref (ad 12)), (1, .int z1), (2, .int z2)] → W p l e rmX4_firstDay_12 s m args below meth c H locs 0 0 (MQ below (Qi D (VX cy ad st) (AX ad) s.heap.size r u') args s 0 0 (Ax (AX ad) s.heap.size)) (F0 m 2 ls []) := by
  intro n
  induction n with
  | zero =>
    intro z1 z2 u H locs ls h
    exact absurd h (by intro q; cases q)
  | succ n ih =>
    intro z1 z2 u H locs ls h hP hS hl
    rw [LX4_firstDay_12_2] at h
    refine lv_iload_n C.1 C.2.1 dX4_firstDay_2 rfl (lv_at hl 2 rfl) ?_
    refine lv_iload_n C.1 C.2.1 dX4_firstDay_3 rfl (lv_at hl 1 rfl) ?_
    refine lv_icmp_gt (tgt := 65) C.1 C.2.1 dX4_firstDay_4 (by decide) (fun c4 => ?_) (fun c4 => ?_)
    · rw [if_pos c4] at h
      refine lv_iconst (v := (-1)) C.1 C.2.1 dX4_firstDay_65 (by decide) ?_
      cases h
      exact rt_i C hP hS dX4_firstDay_66
    · rw [if_neg c4] at h
      refine lv_iconst (v := 0) C.1 C.2.1 dX4_firstDay_7 (by decide) ?_
      refine lv_istore_n (lv' := [(3, .int 0), (0, .ref (ad 12)), (1, .int z1), (2, .int z2)]) C.1 C.2.1 dX4_firstDay_8 rfl hl (by decide) rfl (fun ls hl => ?_)
      replace hl := lv_sub (l' := [(0, .ref (ad 12)), (1, .int z1), (2, .int z2), (3, .int 0)]) hl [1, 2, 3, 0] rfl
      exact wLX4_firstDay_12_9 C hK hJ (wGX4_firstDay_12_59 C hK hJ ih) 5000 _ _ _ _ _ _ _ h hP hS hl
set_option maxHeartbeats 4000000 in
set_option maxRecDepth 100000 in
theorem wX4_firstDay_12 {p : Program} {l : Launch} {e : Env} {s : State} {m : MethodId} {args : Array Value} {below : List Frame} {meth : Method} {c : Code} {D : va_G} {cy : Nat → ClassId} {ad st : Nat → Nat} (C : Cx RX4 cX4_firstDay 4 (some .int) wsX4_firstDay p s m args meth c) (hK : Ky D [(cy 0, .int), (cy 1, .long), (cy 2, .boolean), (cy 3, .byte), (cy 4, .object "HissHorn$Text")] st s) (hJ : JX ad st) (x1 : Int32) {u : SX} {r : Int32} {u' : SX} {H : Heap} {locs : List Loc} {ls : Array Slot} (h : fX4_firstDay_12 x1 u = some (r, u')) (hP : va_P D vwCl (VX cy ad st u) H) (hS : va_S (Ax (AX ad) s.heap.size) s.heap H locs) (hl : lv_has ls 4 [(0, .ref (ad 12)), (1, .int x1)]) : W p l e rmX4_firstDay_12 s m args below meth c H locs 0 0 (MQ below (Qi D (VX cy ad st) (AX ad) s.heap.size r u') args s 0 0 (Ax (AX ad) s.heap.size)) (F0 m 0 ls []) := by
  unfold fX4_firstDay_12 at h
  refine lv_iconst (v := 0) C.1 C.2.1 dX4_firstDay_0 (by decide) ?_
  refine lv_istore_n (lv' := [(2, .int 0), (0, .ref (ad 12)), (1, .int x1)]) C.1 C.2.1 dX4_firstDay_1 rfl hl (by decide) rfl (fun ls hl => ?_)
  replace hl := lv_sub (l' := [(0, .ref (ad 12)), (1, .int x1), (2, .int 0)]) hl [1, 2, 0] rfl
  exact wLX4_firstDay_12_2 C hK hJ  5000 _ _ _ _ _ _ h hP hS hl
theorem metX4_firstDay_12 (l : Launch) (D : va_G) (cy : Nat → ClassId) (ad st : Nat → Nat) (hJ : JX ad st) (sz : Nat) (x1 : Int32) {u : SX} {r : Int32} {u' : SX} (h : fX4_firstDay_12 x1 u = some (r, u')) : Met l yX4_firstDay wsX4_firstDay rmX4_firstDay_12 (va_Pc [.ref (ad 12), .int x1] (Px D [(cy 0, .int), (cy 1, .long), (cy 2, .boolean), (cy 3, .byte), (cy 4, .object "HissHorn$Text")] st (VX cy ad st) sz u)) (Qi D (VX cy ad st) (AX ad) sz r u') 0 0 (Ax (AX ad) sz) := by
  refine Met.ofW (cc := cX4_firstDay) (maxL := 4) (ret := (some .int)) (by decide) rfl ?_
  intro p e s m args below meth c s₁ B hml hv
  obtain ⟨rfl, hsz, hP, hK⟩ := hv
  subst hsz
  have C : Cx RX4 cX4_firstDay 4 (some .int) wsX4_firstDay p s m _ meth c := ⟨B.exec, B.bytes, hml, B.returns, findClass_of_methodNamed B.named, atoms_spec (ws := wsX4_firstDay) B.pre, B.notSynchronized⟩
  have hl := lv_entry ([.ref (ad 12), .int x1]) (n := 4) (Nat.le_of_ble_eq_true rfl)
  rw [lg_entry_eq]
  exact wX4_firstDay_12 C hK hJ x1 h hP va_S.rf hl

theorem zdX11_met_0 : (and (and (and (and (zk cX11_met 0 (.aload_n 0) 1) (zk cX11_met 1 (.getfield 90) 3)) (zk cX11_met 4 (.aload_n 0) 1)) (and (and (zk cX11_met 5 (.getfield 103) 3) (zk cX11_met 8 (.invokevirtual 346) 3)) (zk cX11_met 11 (.aload_n 0) 1))) (and (and (and (zk cX11_met 12 (.getfield 99) 3) (zk cX11_met 15 (.aload_n 0) 1)) (zk cX11_met 16 (.getfield 103) 3)) (and (zk cX11_met 19 (.invokevirtual 360) 3) (zk cX11_met 22 (.ireturn) 1)))) = true := by decide +kernel
theorem dX11_met_0 : decode cX11_met 0 = .ok (.aload_n 0, 1) := zk_of (zk_l (zk_l (zk_l (zk_l zdX11_met_0))))
theorem dX11_met_1 : decode cX11_met 1 = .ok (.getfield 90, 3) := zk_of (zk_r (zk_l (zk_l (zk_l zdX11_met_0))))
theorem dX11_met_4 : decode cX11_met 4 = .ok (.aload_n 0, 1) := zk_of (zk_r (zk_l (zk_l zdX11_met_0)))
theorem dX11_met_5 : decode cX11_met 5 = .ok (.getfield 103, 3) := zk_of (zk_l (zk_l (zk_r (zk_l zdX11_met_0))))
theorem dX11_met_8 : decode cX11_met 8 = .ok (.invokevirtual 346, 3) := zk_of (zk_r (zk_l (zk_r (zk_l zdX11_met_0))))
theorem dX11_met_11 : decode cX11_met 11 = .ok (.aload_n 0, 1) := zk_of (zk_r (zk_r (zk_l zdX11_met_0)))
theorem dX11_met_12 : decode cX11_met 12 = .ok (.getfield 99, 3) := zk_of (zk_l (zk_l (zk_l (zk_r zdX11_met_0))))
theorem dX11_met_15 : decode cX11_met 15 = .ok (.aload_n 0, 1) := zk_of (zk_r (zk_l (zk_l (zk_r zdX11_met_0))))
theorem dX11_met_16 : decode cX11_met 16 = .ok (.getfield 103, 3) := zk_of (zk_r (zk_l (zk_r zdX11_met_0)))
theorem dX11_met_19 : decode cX11_met 19 = .ok (.invokevirtual 360, 3) := zk_of (zk_l (zk_r (zk_r zdX11_met_0)))
theorem dX11_met_22 : decode cX11_met 22 = .ok (.ireturn, 1) := zk_of (zk_r (zk_r (zk_r zdX11_met_0)))
set_option maxRecDepth 20000 in
theorem ggX11_met_X2_settle : GoodIn wsX11_met wsX2_settle := ggi (fun w h => List.mem_cons_of_mem _ (List.mem_append_left _ (List.mem_append_left _ (List.mem_append_left _ (List.mem_append_right _ (List.mem_append_left _ h)))))) gs_X2_settle
set_option maxRecDepth 20000 in
theorem gX11_met_X2_settle : GoodIn wsX11_met (wsV RX11 346 RX2 yX2_settle wsX2_settle) := goodIn_app (goodIn_of _ (by decide +kernel)) ggX11_met_X2_settle
set_option maxRecDepth 20000 in
theorem ggX11_met_X4_firstDay : GoodIn wsX11_met wsX4_firstDay := ggi (fun w h => List.mem_cons_of_mem _ (List.mem_append_left _ (List.mem_append_left _ (List.mem_append_left _ (List.mem_append_right _ (List.mem_append_right _ h)))))) gs_X4_firstDay
set_option maxRecDepth 20000 in
theorem gX11_met_X4_firstDay : GoodIn wsX11_met (wsV RX11 360 RX4 yX4_firstDay wsX4_firstDay) := goodIn_app (goodIn_of _ (by decide +kernel)) ggX11_met_X4_firstDay
/-- HissHorn.met()I of cell 0 -/
def rmX11_met_0 : Room := { frames := 3, cells := 0, slots := 0, locals := 67 }
theorem hX11_met_0_X11 : ∀ w ∈ u_ws RX11 TX11 13, w ∈ wsX11_met := fun w h => (List.mem_cons_of_mem _ (List.mem_append_left _ (List.mem_append_left _ (List.mem_append_right _ h))))
theorem mX11_met_0_1 : Cond.fieldLink RX11 90 "HissHorn" "houses" "LHissHorn$Houses;" ∈ wsX11_met := (List.mem_cons_of_mem _ (List.mem_append_left _ (List.mem_append_left _ (List.mem_append_left _ (List.mem_append_left _ (List.mem_of_getElem? (i := 8) rfl))))))
theorem mX11_met_0_2 : Cond.fieldLink RX11 103 "HissHorn" "now" "I" ∈ wsX11_met := (List.mem_cons_of_mem _ (List.mem_append_left _ (List.mem_append_left _ (List.mem_append_left _ (List.mem_append_left _ (List.mem_of_getElem? (i := 9) rfl))))))
theorem mX11_met_0_3 : Cond.fieldLink RX11 99 "HissHorn" "meeting" "LHissHorn$Meeting;" ∈ wsX11_met := (List.mem_cons_of_mem _ (List.mem_append_left _ (List.mem_append_left _ (List.mem_append_left _ (List.mem_append_left _ (List.mem_of_getElem? (i := 10) rfl))))))
def fX11_met_0  (u : SX) : Option (Int32 × SX) := ((fX2_settle_11 (u.1 0) u).bind fun q => match q with | (r1, u2) => ((fX4_firstDay_12 (u2.1 0) u2).bind fun q => match q with | (r4, u5) => (some (r4, u5))))
set_option maxHeartbeats 4000000 in
set_option maxRecDepth 100000 in
theorem wX11_met_0 {p : Program} {l : Launch} {e : Env} {s : State} {m : MethodId} {args : Array Value} {below : List Frame} {meth : Method} {c : Code} {D : va_G} {cy : Nat → ClassId} {ad st : Nat → Nat} (C : Cx RX11 cX11_met 1 (some .int) wsX11_met p s m args meth c) (hK : Ky D [(cy 0, .int), (cy 1, .long), (cy 2, .boolean), (cy 3, .byte), (cy 4, .object "HissHorn$Text")] st s) (hJ : JX ad st)  {u : SX} {r : Int32} {u' : SX} {H : Heap} {locs : List Loc} {ls : Array Slot} (h : fX11_met_0  u = some (r, u')) (hP : va_P D vwCl (VX cy ad st u) H) (hS : va_S (Ax (AX ad) s.heap.size) s.heap H locs) (hl : lv_has ls 1 [(0, .ref (ad 0))]) : W p l e rmX11_met_0 s m args below meth c H locs 0 0 (MQ below (Qi D (VX cy ad st) (AX ad) s.heap.size r u') args s 0 0 (Ax (AX ad) s.heap.size)) (F0 m 0 ls []) := by
  unfold fX11_met_0 at h
  refine lv_aload_n C.1 C.2.1 dX11_met_0 rfl (lv_at hl 0 rfl) ?_
  refine gX_0_houses C hX11_met_0_X11 hK hP mX11_met_0_1 dX11_met_1 ?_
  refine lv_aload_n C.1 C.2.1 dX11_met_4 rfl (lv_at hl 0 rfl) ?_
  refine gX_0_now C hX11_met_0_X11 hK hP mX11_met_0_2 dX11_met_5 ?_
  obtain ⟨⟨r1, u2⟩, hc3, h⟩ := bd_some h
  try dsimp only at h
  refine cg_v (As := [.int (u.1 0)]) (rest := []) (AX_ge hJ) C hK hP hS (metX2_settle_11 l D cy ad st hJ _ (u.1 0) hc3) (cwV 1 C.2.2.2.2.2.1 gX11_met_X2_settle rfl rfl rfl (by decide +kernel) ⟨(Nat.le_of_ble_eq_true rfl), (Nat.le_of_ble_eq_true rfl)⟩) 11 2 rfl rfl rfl hl.1 rfl (Nat.le_of_ble_eq_true rfl) dX11_met_8 ⟨Nat.zero_le _, Nat.zero_le _⟩ (fun H locs hP hS => ?_)
  refine lv_aload_n C.1 C.2.1 dX11_met_11 rfl (lv_at hl 0 rfl) ?_
  refine gX_0_meeting C hX11_met_0_X11 hK hP mX11_met_0_3 dX11_met_12 ?_
  refine lv_aload_n C.1 C.2.1 dX11_met_15 rfl (lv_at hl 0 rfl) ?_
  refine gX_0_now C hX11_met_0_X11 hK hP mX11_met_0_2 dX11_met_16 ?_
  obtain ⟨⟨r4, u5⟩, hc6, h⟩ := bd_some h
  try dsimp only at h
  refine cg_i (As := [.int (u2.1 0)]) (rest := []) (AX_ge hJ) C hK hP hS (metX4_firstDay_12 l D cy ad st hJ _ (u2.1 0) hc6) (cwV 1 C.2.2.2.2.2.1 gX11_met_X4_firstDay rfl rfl rfl (by decide +kernel) ⟨(Nat.le_of_ble_eq_true rfl), (Nat.le_of_ble_eq_true rfl)⟩) 12 4 rfl rfl rfl hl.1 rfl (Nat.le_of_ble_eq_true rfl) dX11_met_19 ⟨Nat.zero_le _, Nat.zero_le _⟩ (fun H locs hP hS => ?_)
  cases h
  exact rt_i C hP hS dX11_met_22
theorem metX11_met_0 (l : Launch) (D : va_G) (cy : Nat → ClassId) (ad st : Nat → Nat) (hJ : JX ad st) (sz : Nat)  {u : SX} {r : Int32} {u' : SX} (h : fX11_met_0  u = some (r, u')) : Met l yX11_met wsX11_met rmX11_met_0 (va_Pc [.ref (ad 0)] (Px D [(cy 0, .int), (cy 1, .long), (cy 2, .boolean), (cy 3, .byte), (cy 4, .object "HissHorn$Text")] st (VX cy ad st) sz u)) (Qi D (VX cy ad st) (AX ad) sz r u') 0 0 (Ax (AX ad) sz) := by
  refine Met.ofW (cc := cX11_met) (maxL := 1) (ret := (some .int)) (by decide) rfl ?_
  intro p e s m args below meth c s₁ B hml hv
  obtain ⟨rfl, hsz, hP, hK⟩ := hv
  subst hsz
  have C : Cx RX11 cX11_met 1 (some .int) wsX11_met p s m _ meth c := ⟨B.exec, B.bytes, hml, B.returns, findClass_of_methodNamed B.named, atoms_spec (ws := wsX11_met) B.pre, B.notSynchronized⟩
  have hl := lv_entry ([.ref (ad 0)]) (n := 1) (Nat.le_of_ble_eq_true rfl)
  rw [lg_entry_eq]
  exact wX11_met_0 C hK hJ h hP va_S.rf hl

/-- HissHorn.rowsUpTo(I[III)I -/
def rmX11_rowsUpTo_a62 : Room := { frames := 1, cells := 0, slots := 0, locals := 14 }
theorem mX11_rowsUpTo_a62_0 : Cond.methodLink RX11 400 Lib.Math.min.name ∈ wsX11_rowsUpTo := (List.mem_cons_of_mem _ (List.mem_of_getElem? (i := 0) rfl))
theorem mX11_rowsUpTo_a62_1 : Cond.static Lib.Math.min.name ∈ wsX11_rowsUpTo := (List.mem_cons_of_mem _ (List.mem_of_getElem? (i := 1) rfl))
theorem mX11_rowsUpTo_a62_2 : Cond.initialized "java/lang/Math" ∈ wsX11_rowsUpTo := (List.mem_cons_of_mem _ (List.mem_of_getElem? (i := 2) rfl))
theorem mX11_rowsUpTo_a62_3 : Cond.code Lib.Math.min.name Lib.Math.min.code 2 (some .int) ∈ wsX11_rowsUpTo := (List.mem_cons_of_mem _ (List.mem_of_getElem? (i := 3) rfl))
theorem mX11_rowsUpTo_a62_4 : Cond.methodLink RX11 403 Lib.Math.max.name ∈ wsX11_rowsUpTo := (List.mem_cons_of_mem _ (List.mem_of_getElem? (i := 4) rfl))
theorem mX11_rowsUpTo_a62_5 : Cond.static Lib.Math.max.name ∈ wsX11_rowsUpTo := (List.mem_cons_of_mem _ (List.mem_of_getElem? (i := 5) rfl))
theorem mX11_rowsUpTo_a62_6 : Cond.code Lib.Math.max.name Lib.Math.max.code 2 (some .int) ∈ wsX11_rowsUpTo := (List.mem_cons_of_mem _ (List.mem_of_getElem? (i := 6) rfl))
def LX11_rowsUpTo_a62_11 (k31 : Int32 → Int32 → SX → Option (Int32 × SX)) : Nat → Int32 → Int32 → Int32 → SX → Option (Int32 × SX)
  | 0, _, _, _, _ => none
  | n + 1, z0, z2, z4, u => (if z2 ≤ z4 then (k31 z0 z4 u) else (gd (inb z4 60) (if z0 < (u.2.1 62 z4.toNatClampNeg) then (k31 z0 z4 u) else ((LX11_rowsUpTo_a62_11 k31 n) z0 z2 (z4 + 1) u))))
def LX11_rowsUpTo_a62_31  : Nat → Int32 → Int32 → SX → Option (Int32 × SX)
  | 0, _, _, _ => none
  | n + 1, z0, z4, u => (if z4 ≤ 0 then (some (z4, u)) else (gd (inb (z4 - 1) 60) (if (u.2.1 62 (z4 - 1).toNatClampNeg) ≤ z0 then (some (z4, u)) else ((LX11_rowsUpTo_a62_31 n) z0 (z4 + (-1)) u))))
def fX11_rowsUpTo_a62 (x0 : Int32) (x2 : Int32) (x3 : Int32) (u : SX) : Option (Int32 × SX) := (lt (if 0 < (if x2 < x3 then x2 else x3) then (if x2 < x3 then x2 else x3) else 0) fun v1 => (LX11_rowsUpTo_a62_11 (LX11_rowsUpTo_a62_31  5000) 5000 x0 x2 v1 u))
set_option maxHeartbeats 4000000 in
set_option maxRecDepth 100000 in
theorem wLX11_rowsUpTo_a62_11 {p : Program} {l : Launch} {e : Env} {s : State} {m : MethodId} {args : Array Value} {below : List Frame} {meth : Method} {c : Code} {D : va_G} {cy : Nat → ClassId} {ad st : Nat → Nat} (C : Cx RX11 cX11_rowsUpTo 5 (some .int) wsX11_rowsUpTo p s m args meth c) (hK : Ky D [(cy 0, .int), (cy 1, .long), (cy 2, .boolean), (cy 3, .byte), (cy 4, .object "HissHorn$Text")] st s) (hJ : JX ad st) {r : Int32} {u' : SX} {k31 : Int32 → Int32 → SX → Option (Int32 × SX)} (hk31 : ∀ (z0 : Int32) (z4 : Int32) (u : SX) (H : Heap) (locs : List Loc) (ls : Array Slot), k31 z0 z4 u = some (r, u') → va_P D vwCl (VX cy ad st u) H → va_S (Ax (AX ad) s.heap.size) s.heap H locs → lv_has ls 5 [(0, .int z0), (1, .ref (ad 62)), (4, .int z4)] → W p l e rmX11_rowsUpTo_a62 s m args below meth c H locs 0 0 (MQ below (Qi D (VX cy ad st) (AX ad) s.heap.size r u') args s 0 0 (Ax (AX ad) s.heap.size)) (F0 m 31 ls [])) : ∀ (n : Nat) (z0 : Int32) (z2 : Int32) (z4 : Int32) (u : SX) (H : Heap) (locs : List Loc) (ls : Array Slot), LX11_rowsUpTo_a62_11 k31 n z0 z2 z4 u = some (r, u') → va_P D vwCl (VX cy ad st u) H → va_S (Ax (AX ad) s.heap.size) s.heap H locs → lv_has ls 5 [(0, .int z0), (1, .ref (ad 62)), (2, .int z2), (4, .int z4)] → W p l e rmX11_rowsUpTo_a62 s m args below meth c H locs 0 0 (MQ below (Qi D (VX cy ad st) (AX ad) s.heap.size r u') args s 0 0 (Ax (AX ad) s.heap.size)) (F0 m 11 ls []) := by
  intro n
  induction n with
  | zero =>
    intro z0 z2 z4 u H locs ls h
    exact absurd h (by intro q; cases q)
  | succ n ih =>
    intro z0 z2 z4 u H locs ls h hP hS hl
    rw [LX11_rowsUpTo_a62_11] at h
    refine lv_iload C.1 C.2.1 dX11_rowsUpTo_11 (lv_at hl 3 rfl) ?_
    refine lv_iload_n C.1 C.2.1 dX11_rowsUpTo_13 rfl (lv_at hl 2 rfl) ?_
    refine lv_icmp_ge (tgt := 31) C.1 C.2.1 dX11_rowsUpTo_14 (by decide) (fun c14 => ?_) (fun c14 => ?_)
    · rw [if_pos c14] at h
      exact hk31 _ _ _ _ _ _ h hP hS (lv_sub hl [0, 1, 3] rfl)
    · rw [if_neg c14] at h
      refine lv_aload_n C.1 C.2.1 dX11_rowsUpTo_17 rfl (lv_at hl 1 rfl) ?_
      refine lv_iload C.1 C.2.1 dX11_rowsUpTo_18 (lv_at hl 3 rfl) ?_
      obtain ⟨hg3, h⟩ := gd_some h
      refine lX_62 C hK hP hg3 dX11_rowsUpTo_20 ?_
      refine lv_iload_n C.1 C.2.1 dX11_rowsUpTo_21 rfl (lv_at hl 0 rfl) ?_
      refine lv_icmp_gt (tgt := 31) C.1 C.2.1 dX11_rowsUpTo_22 (by decide) (fun c22 => ?_) (fun c22 => ?_)
      · rw [if_pos c22] at h
        exact hk31 _ _ _ _ _ _ h hP hS (lv_sub hl [0, 1, 3] rfl)
      · rw [if_neg c22] at h
        refine lv_iinc (v := z4 + 1) (lv' := [(4, .int (z4 + 1)), (0, .int z0), (1, .ref (ad 62)), (2, .int z2)]) C.1 C.2.1 dX11_rowsUpTo_25 hl (k := 3) rfl rfl (by decide) rfl (fun ls hl => ?_)
        replace hl := lv_sub (l' := [(0, .int z0), (1, .ref (ad 62)), (2, .int z2), (4, .int (z4 + 1))]) hl [1, 2, 3, 0] rfl
        refine lv_goto (tgt := 11) C.1 C.2.1 dX11_rowsUpTo_28 (by decide) ?_
        exact ih _ _ _ _ _ _ _ h hP hS hl
set_option maxHeartbeats 4000000 in
set_option maxRecDepth 100000 in
theorem wLX11_rowsUpTo_a62_31 {p : Program} {l : Launch} {e : Env} {s : State} {m : MethodId} {args : Array Value} {below : List Frame} {meth : Method} {c : Code} {D : va_G} {cy : Nat → ClassId} {ad st : Nat → Nat} (C : Cx RX11 cX11_rowsUpTo 5 (some .int) wsX11_rowsUpTo p s m args meth c) (hK : Ky D [(cy 0, .int), (cy 1, .long), (cy 2, .boolean), (cy 3, .byte), (cy 4, .object "HissHorn$Text")] st s) (hJ : JX ad st) {r : Int32} {u' : SX}   : ∀ (n : Nat) (z0 : Int32) (z4 : Int32) (u : SX) (H : Heap) (locs : List Loc) (ls : Array Slot), LX11_rowsUpTo_a62_31  n z0 z4 u = some (r, u') → va_P D vwCl (VX cy ad st u) H → va_S (Ax (AX ad) s.heap.size) s.heap H locs → lv_has ls 5 [(0, .int z0), (1, .ref (ad 62)), (4, .int z4)] → W p l e rmX11_rowsUpTo_a62 s m args below meth c H locs 0 0 (MQ below (Qi D (VX cy ad st) (AX ad) s.heap.size r u') args s 0 0 (Ax (AX ad) s.heap.size)) (F0 m 31 ls []) := by
  intro n
  induction n with
  | zero =>
    intro z0 z4 u H locs ls h
    exact absurd h (by intro q; cases q)
  | succ n ih =>
    intro z0 z4 u H locs ls h hP hS hl
    rw [LX11_rowsUpTo_a62_31] at h
    refine lv_iload C.1 C.2.1 dX11_rowsUpTo_31 (lv_at hl 2 rfl) ?_
    refine lv_if_le (tgt := 52) C.1 C.2.1 dX11_rowsUpTo_33 (by decide) (fun c33 => ?_) (fun c33 => ?_)
    · rw [if_pos c33] at h
      refine lv_iload C.1 C.2.1 dX11_rowsUpTo_52 (lv_at hl 2 rfl) ?_
      cases h
      exact rt_i C hP hS dX11_rowsUpTo_54
    · rw [if_neg c33] at h
      refine lv_aload_n C.1 C.2.1 dX11_rowsUpTo_36 rfl (lv_at hl 1 rfl) ?_
      refine lv_iload C.1 C.2.1 dX11_rowsUpTo_37 (lv_at hl 2 rfl) ?_
      refine lv_iconst (v := 1) C.1 C.2.1 dX11_rowsUpTo_39 (by decide) ?_
      refine lv_isub C.1 C.2.1 dX11_rowsUpTo_40 ?_
      obtain ⟨hg4, h⟩ := gd_some h
      refine lX_62 C hK hP hg4 dX11_rowsUpTo_41 ?_
      refine lv_iload_n C.1 C.2.1 dX11_rowsUpTo_42 rfl (lv_at hl 0 rfl) ?_
      refine lv_icmp_le (tgt := 52) C.1 C.2.1 dX11_rowsUpTo_43 (by decide) (fun c43 => ?_) (fun c43 => ?_)
      · rw [if_pos c43] at h
        refine lv_iload C.1 C.2.1 dX11_rowsUpTo_52 (lv_at hl 2 rfl) ?_
        cases h
        exact rt_i C hP hS dX11_rowsUpTo_54
      · rw [if_neg c43] at h
        refine lv_iinc (v := z4 + (-1)) (lv' := [(4, .int (z4 + (-1))), (0, .int z0), (1, .ref (ad 62))]) C.1 C.2.1 dX11_rowsUpTo_46 hl (k := 2) rfl rfl (by decide) rfl (fun ls hl => ?_)
        replace hl := lv_sub (l' := [(0, .int z0), (1, .ref (ad 62)), (4, .int (z4 + (-1)))]) hl [1, 2, 0] rfl
        refine lv_goto (tgt := 31) C.1 C.2.1 dX11_rowsUpTo_49 (by decide) ?_
        exact ih _ _ _ _ _ _ h hP hS hl
set_option maxHeartbeats 4000000 in
set_option maxRecDepth 100000 in
theorem wX11_rowsUpTo_a62 {p : Program} {l : Launch} {e : Env} {s : State} {m : MethodId} {args : Array Value} {below : List Frame} {meth : Method} {c : Code} {D : va_G} {cy : Nat → ClassId} {ad st : Nat → Nat} (C : Cx RX11 cX11_rowsUpTo 5 (some .int) wsX11_rowsUpTo p s m args meth c) (hK : Ky D [(cy 0, .int), (cy 1, .long), (cy 2, .boolean), (cy 3, .byte), (cy 4, .object "HissHorn$Text")] st s) (hJ : JX ad st) (x0 : Int32) (x2 : Int32) (x3 : Int32) {u : SX} {r : Int32} {u' : SX} {H : Heap} {locs : List Loc} {ls : Array Slot} (h : fX11_rowsUpTo_a62 x0 x2 x3 u = some (r, u')) (hP : va_P D vwCl (VX cy ad st u) H) (hS : va_S (Ax (AX ad) s.heap.size) s.heap H locs) (hl : lv_has ls 5 [(0, .int x0), (1, .ref (ad 62)), (2, .int x2), (3, .int x3)]) : W p l e rmX11_rowsUpTo_a62 s m args below meth c H locs 0 0 (MQ below (Qi D (VX cy ad st) (AX ad) s.heap.size r u') args s 0 0 (Ax (AX ad) s.heap.size)) (F0 m 0 ls []) := by
  unfold fX11_rowsUpTo_a62 at h
  refine lv_iconst (v := 0) C.1 C.2.1 dX11_rowsUpTo_0 (by decide) ?_
  refine lv_iload_n C.1 C.2.1 dX11_rowsUpTo_1 rfl (lv_at hl 3 rfl) ?_
  refine lv_iload_n C.1 C.2.1 dX11_rowsUpTo_2 rfl (lv_at hl 2 rfl) ?_
  refine va_mmin C.1 C.2.1 (C.2.2.1.trans hl.1.symm) C.2.2.2.2.1 (C.2.2.2.2.2.1 _ mX11_rowsUpTo_a62_0) (C.2.2.2.2.2.1 _ mX11_rowsUpTo_a62_1) (C.2.2.2.2.2.1 _ mX11_rowsUpTo_a62_2) (C.2.2.2.2.2.1 _ mX11_rowsUpTo_a62_3) (Nat.le_of_ble_eq_true rfl) (Nat.le_of_ble_eq_true rfl) (Nat.zero_le _) (Nat.zero_le _) dX11_rowsUpTo_3 ?_
  refine va_mmax C.1 C.2.1 (C.2.2.1.trans hl.1.symm) C.2.2.2.2.1 (C.2.2.2.2.2.1 _ mX11_rowsUpTo_a62_4) (C.2.2.2.2.2.1 _ mX11_rowsUpTo_a62_5) (C.2.2.2.2.2.1 _ mX11_rowsUpTo_a62_2) (C.2.2.2.2.2.1 _ mX11_rowsUpTo_a62_6) (Nat.le_of_ble_eq_true rfl) (Nat.le_of_ble_eq_true rfl) (Nat.zero_le _) (Nat.zero_le _) dX11_rowsUpTo_6 ?_
  refine lv_topi (fun v1 hv2 => ?_)
  replace h := lt_e hv2 h
  try dsimp only at h
  refine lv_istore (lv' := [(4, .int v1), (0, .int x0), (1, .ref (ad 62)), (2, .int x2), (3, .int x3)]) C.1 C.2.1 dX11_rowsUpTo_9 hl (by decide) rfl (fun ls hl => ?_)
  replace hl := lv_sub (l' := [(0, .int x0), (1, .ref (ad 62)), (2, .int x2), (3, .int x3), (4, .int v1)]) hl [1, 2, 3, 4, 0] rfl
  exact wLX11_rowsUpTo_a62_11 C hK hJ (wLX11_rowsUpTo_a62_31 C hK hJ  5000) 5000 _ _ _ _ _ _ _ h hP hS (lv_sub hl [0, 1, 2, 4] rfl)
theorem metX11_rowsUpTo_a62 (l : Launch) (D : va_G) (cy : Nat → ClassId) (ad st : Nat → Nat) (hJ : JX ad st) (sz : Nat) (x0 : Int32) (x2 : Int32) (x3 : Int32) {u : SX} {r : Int32} {u' : SX} (h : fX11_rowsUpTo_a62 x0 x2 x3 u = some (r, u')) : Met l yX11_rowsUpTo wsX11_rowsUpTo rmX11_rowsUpTo_a62 (va_Pc [.int x0, .ref (ad 62), .int x2, .int x3] (Px D [(cy 0, .int), (cy 1, .long), (cy 2, .boolean), (cy 3, .byte), (cy 4, .object "HissHorn$Text")] st (VX cy ad st) sz u)) (Qi D (VX cy ad st) (AX ad) sz r u') 0 0 (Ax (AX ad) sz) := by
  refine Met.ofW (cc := cX11_rowsUpTo) (maxL := 5) (ret := (some .int)) (by decide) rfl ?_
  intro p e s m args below meth c s₁ B hml hv
  obtain ⟨rfl, hsz, hP, hK⟩ := hv
  subst hsz
  have C : Cx RX11 cX11_rowsUpTo 5 (some .int) wsX11_rowsUpTo p s m _ meth c := ⟨B.exec, B.bytes, hml, B.returns, findClass_of_methodNamed B.named, atoms_spec (ws := wsX11_rowsUpTo) B.pre, B.notSynchronized⟩
  have hl := lv_entry ([.int x0, .ref (ad 62), .int x2, .int x3]) (n := 5) (Nat.le_of_ble_eq_true rfl)
  rw [lg_entry_eq]
  exact wX11_rowsUpTo_a62 C hK hJ x0 x2 x3 h hP va_S.rf hl

theorem zdX4_passDay_2 : (and (and (and (and (and (zk cX4_passDay 2 (.iload_n 3) 1) (zk cX4_passDay 3 (.bipush 8) 2)) (and (zk cX4_passDay 5 (.if_icmp .ge 39) 3) (zk cX4_passDay 8 (.aload_n 0) 1))) (and (and (zk cX4_passDay 9 (.getfield 9) 3) (zk cX4_passDay 12 (.iload_n 3) 1)) (and (zk cX4_passDay 13 (.aload_n 0) 1) (zk cX4_passDay 14 (.getfield 15) 3)))) (and (and (and (zk cX4_passDay 17 (.iload_n 3) 1) (zk cX4_passDay 18 (.laload) 1)) (and (zk cX4_passDay 19 (.lastore) 1) (zk cX4_passDay 20 (.aload_n 0) 1))) (and (and (zk cX4_passDay 21 (.getfield 15) 3) (zk cX4_passDay 24 (.iload_n 3) 1)) (and (zk cX4_passDay 25 (.dup2) 1) (zk cX4_passDay 26 (.laload) 1))))) (and (and (and (and (zk cX4_passDay 27 (.aload_n 0) 1) (zk cX4_passDay 28 (.getfield 18) 3)) (and (zk cX4_passDay 31 (.iload_n 3) 1) (zk cX4_passDay 32 (.iload_n 1) 1))) (and (and (zk cX4_passDay 33 (.invokevirtual 84) 3) (zk cX4_passDay 36 (.lor) 1)) (and (zk cX4_passDay 37 (.lastore) 1) (zk cX4_passDay 38 (.iinc 3 1) 3)))) (and (and (and (zk cX4_passDay 41 (.goto (-39)) 3) (zk cX4_passDay 46 (.iload_n 3) 1)) (and (zk cX4_passDay 47 (.aload_n 0) 1) (zk cX4_passDay 48 (.getfield 18) 3))) (and (and (zk cX4_passDay 51 (.getfield 69) 3) (zk cX4_passDay 54 (.if_icmp .ge 53) 3)) (and (zk cX4_passDay 107 (.iload_n 3) 1) (zk cX4_passDay 108 (.ireturn) 1)))))) = true := by decide +kernel
theorem dX4_passDay_2 : decode cX4_passDay 2 = .ok (.iload_n 3, 1) := zk_of (zk_l (zk_l (zk_l (zk_l (zk_l zdX4_passDay_2)))))
theorem dX4_passDay_3 : decode cX4_passDay 3 = .ok (.bipush 8, 2) := zk_of (zk_r (zk_l (zk_l (zk_l (zk_l zdX4_passDay_2)))))
theorem dX4_passDay_5 : decode cX4_passDay 5 = .ok (.if_icmp .ge 39, 3) := zk_of (zk_l (zk_r (zk_l (zk_l (zk_l zdX4_passDay_2)))))
theorem dX4_passDay_8 : decode cX4_passDay 8 = .ok (.aload_n 0, 1) := zk_of (zk_r (zk_r (zk_l (zk_l (zk_l zdX4_passDay_2)))))
theorem dX4_passDay_9 : decode cX4_passDay 9 = .ok (.getfield 9, 3) := zk_of (zk_l (zk_l (zk_r (zk_l (zk_l zdX4_passDay_2)))))
theorem dX4_passDay_12 : decode cX4_passDay 12 = .ok (.iload_n 3, 1) := zk_of (zk_r (zk_l (zk_r (zk_l (zk_l zdX4_passDay_2)))))
theorem dX4_passDay_13 : decode cX4_passDay 13 = .ok (.aload_n 0, 1) := zk_of (zk_l (zk_r (zk_r (zk_l (zk_l zdX4_passDay_2)))))
theorem dX4_passDay_14 : decode cX4_passDay 14 = .ok (.getfield 15, 3) := zk_of (zk_r (zk_r (zk_r (zk_l (zk_l zdX4_passDay_2)))))
theorem dX4_passDay_17 : decode cX4_passDay 17 = .ok (.iload_n 3, 1) := zk_of (zk_l (zk_l (zk_l (zk_r (zk_l zdX4_passDay_2)))))
theorem dX4_passDay_18 : decode cX4_passDay 18 = .ok (.laload, 1) := zk_of (zk_r (zk_l (zk_l (zk_r (zk_l zdX4_passDay_2)))))
theorem dX4_passDay_19 : decode cX4_passDay 19 = .ok (.lastore, 1) := zk_of (zk_l (zk_r (zk_l (zk_r (zk_l zdX4_passDay_2)))))
theorem dX4_passDay_20 : decode cX4_passDay 20 = .ok (.aload_n 0, 1) := zk_of (zk_r (zk_r (zk_l (zk_r (zk_l zdX4_passDay_2)))))
theorem dX4_passDay_21 : decode cX4_passDay 21 = .ok (.getfield 15, 3) := zk_of (zk_l (zk_l (zk_r (zk_r (zk_l zdX4_passDay_2)))))
theorem dX4_passDay_24 : decode cX4_passDay 24 = .ok (.iload_n 3, 1) := zk_of (zk_r (zk_l (zk_r (zk_r (zk_l zdX4_passDay_2)))))
theorem dX4_passDay_25 : decode cX4_passDay 25 = .ok (.dup2, 1) := zk_of (zk_l (zk_r (zk_r (zk_r (zk_l zdX4_passDay_2)))))
theorem dX4_passDay_26 : decode cX4_passDay 26 = .ok (.laload, 1) := zk_of (zk_r (zk_r (zk_r (zk_r (zk_l zdX4_passDay_2)))))
theorem dX4_passDay_27 : decode cX4_passDay 27 = .ok (.aload_n 0, 1) := zk_of (zk_l (zk_l (zk_l (zk_l (zk_r zdX4_passDay_2)))))
theorem dX4_passDay_28 : decode cX4_passDay 28 = .ok (.getfield 18, 3) := zk_of (zk_r (zk_l (zk_l (zk_l (zk_r zdX4_passDay_2)))))
theorem dX4_passDay_31 : decode cX4_passDay 31 = .ok (.iload_n 3, 1) := zk_of (zk_l (zk_r (zk_l (zk_l (zk_r zdX4_passDay_2)))))
theorem dX4_passDay_32 : decode cX4_passDay 32 = .ok (.iload_n 1, 1) := zk_of (zk_r (zk_r (zk_l (zk_l (zk_r zdX4_passDay_2)))))
theorem dX4_passDay_33 : decode cX4_passDay 33 = .ok (.invokevirtual 84, 3) := zk_of (zk_l (zk_l (zk_r (zk_l (zk_r zdX4_passDay_2)))))
theorem dX4_passDay_36 : decode cX4_passDay 36 = .ok (.lor, 1) := zk_of (zk_r (zk_l (zk_r (zk_l (zk_r zdX4_passDay_2)))))
theorem dX4_passDay_37 : decode cX4_passDay 37 = .ok (.lastore, 1) := zk_of (zk_l (zk_r (zk_r (zk_l (zk_r zdX4_passDay_2)))))
theorem dX4_passDay_38 : decode cX4_passDay 38 = .ok (.iinc 3 1, 3) := zk_of (zk_r (zk_r (zk_r (zk_l (zk_r zdX4_passDay_2)))))
theorem dX4_passDay_41 : decode cX4_passDay 41 = .ok (.goto (-39), 3) := zk_of (zk_l (zk_l (zk_l (zk_r (zk_r zdX4_passDay_2)))))
theorem dX4_passDay_46 : decode cX4_passDay 46 = .ok (.iload_n 3, 1) := zk_of (zk_r (zk_l (zk_l (zk_r (zk_r zdX4_passDay_2)))))
theorem dX4_passDay_47 : decode cX4_passDay 47 = .ok (.aload_n 0, 1) := zk_of (zk_l (zk_r (zk_l (zk_r (zk_r zdX4_passDay_2)))))
theorem dX4_passDay_48 : decode cX4_passDay 48 = .ok (.getfield 18, 3) := zk_of (zk_r (zk_r (zk_l (zk_r (zk_r zdX4_passDay_2)))))
theorem dX4_passDay_51 : decode cX4_passDay 51 = .ok (.getfield 69, 3) := zk_of (zk_l (zk_l (zk_r (zk_r (zk_r zdX4_passDay_2)))))
theorem dX4_passDay_54 : decode cX4_passDay 54 = .ok (.if_icmp .ge 53, 3) := zk_of (zk_r (zk_l (zk_r (zk_r (zk_r zdX4_passDay_2)))))
theorem dX4_passDay_107 : decode cX4_passDay 107 = .ok (.iload_n 3, 1) := zk_of (zk_l (zk_r (zk_r (zk_r (zk_r zdX4_passDay_2)))))
theorem dX4_passDay_108 : decode cX4_passDay 108 = .ok (.ireturn, 1) := zk_of (zk_r (zk_r (zk_r (zk_r (zk_r zdX4_passDay_2)))))
set_option maxRecDepth 20000 in
theorem ggX4_passDay_X2_toldBy : GoodIn wsX4_passDay wsX2_toldBy := ggi (fun w h => List.mem_cons_of_mem _ (List.mem_append_left _ (List.mem_append_left _ (List.mem_append_right _ h)))) gs_X2_toldBy
set_option maxRecDepth 20000 in
theorem gX4_passDay_X2_toldBy : GoodIn wsX4_passDay (wsV RX4 84 RX2 yX2_toldBy wsX2_toldBy) := goodIn_app (goodIn_of _ (by decide +kernel)) ggX4_passDay_X2_toldBy
theorem zdX4_passDay_57 : (and (and (and (and (and (zk cX4_passDay 57 (.aload_n 0) 1) (zk cX4_passDay 58 (.getfield 18) 3)) (and (zk cX4_passDay 61 (.getfield 65) 3) (zk cX4_passDay 64 (.iload_n 3) 1))) (and (and (zk cX4_passDay 65 (.iaload) 1) (zk cX4_passDay 66 (.iload_n 1) 1)) (and (zk cX4_passDay 67 (.if_icmp .ne 40) 3) (zk cX4_passDay 70 (.aload_n 0) 1)))) (and (and (and (zk cX4_passDay 71 (.getfield 15) 3) (zk cX4_passDay 74 (.aload_n 0) 1)) (and (zk cX4_passDay 75 (.getfield 18) 3) (zk cX4_passDay 78 (.getfield 87) 3))) (and (and (zk cX4_passDay 81 (.iload_n 3) 1) (zk cX4_passDay 82 (.iaload) 1)) (and (zk cX4_passDay 83 (.dup2) 1) (zk cX4_passDay 84 (.laload) 1))))) (and (and (and (and (zk cX4_passDay 85 (.aload_n 0) 1) (zk cX4_passDay 86 (.getfield 9) 3)) (and (zk cX4_passDay 89 (.aload_n 0) 1) (zk cX4_passDay 90 (.getfield 18) 3))) (and (and (zk cX4_passDay 93 (.getfield 90) 3) (zk cX4_passDay 96 (.iload_n 3) 1)) (and (zk cX4_passDay 97 (.iaload) 1) (zk cX4_passDay 98 (.laload) 1)))) (and (and (and (zk cX4_passDay 99 (.lor) 1) (zk cX4_passDay 100 (.lastore) 1)) (and (zk cX4_passDay 101 (.iinc 3 1) 3) (zk cX4_passDay 104 (.goto (-58)) 3))) (and (and (zk cX4_passDay 44 (.iload_n 2) 1) (zk cX4_passDay 45 (.istore_n 3) 1)) (and (zk cX4_passDay 0 (.iconst 0) 1) (zk cX4_passDay 1 (.istore_n 3) 1)))))) = true := by decide +kernel
theorem dX4_passDay_57 : decode cX4_passDay 57 = .ok (.aload_n 0, 1) := zk_of (zk_l (zk_l (zk_l (zk_l (zk_l zdX4_passDay_57)))))
theorem dX4_passDay_58 : decode cX4_passDay 58 = .ok (.getfield 18, 3) := zk_of (zk_r (zk_l (zk_l (zk_l (zk_l zdX4_passDay_57)))))
theorem dX4_passDay_61 : decode cX4_passDay 61 = .ok (.getfield 65, 3) := zk_of (zk_l (zk_r (zk_l (zk_l (zk_l zdX4_passDay_57)))))
theorem dX4_passDay_64 : decode cX4_passDay 64 = .ok (.iload_n 3, 1) := zk_of (zk_r (zk_r (zk_l (zk_l (zk_l zdX4_passDay_57)))))
theorem dX4_passDay_65 : decode cX4_passDay 65 = .ok (.iaload, 1) := zk_of (zk_l (zk_l (zk_r (zk_l (zk_l zdX4_passDay_57)))))
theorem dX4_passDay_66 : decode cX4_passDay 66 = .ok (.iload_n 1, 1) := zk_of (zk_r (zk_l (zk_r (zk_l (zk_l zdX4_passDay_57)))))
theorem dX4_passDay_67 : decode cX4_passDay 67 = .ok (.if_icmp .ne 40, 3) := zk_of (zk_l (zk_r (zk_r (zk_l (zk_l zdX4_passDay_57)))))
theorem dX4_passDay_70 : decode cX4_passDay 70 = .ok (.aload_n 0, 1) := zk_of (zk_r (zk_r (zk_r (zk_l (zk_l zdX4_passDay_57)))))
theorem dX4_passDay_71 : decode cX4_passDay 71 = .ok (.getfield 15, 3) := zk_of (zk_l (zk_l (zk_l (zk_r (zk_l zdX4_passDay_57)))))
theorem dX4_passDay_74 : decode cX4_passDay 74 = .ok (.aload_n 0, 1) := zk_of (zk_r (zk_l (zk_l (zk_r (zk_l zdX4_passDay_57)))))
theorem dX4_passDay_75 : decode cX4_passDay 75 = .ok (.getfield 18, 3) := zk_of (zk_l (zk_r (zk_l (zk_r (zk_l zdX4_passDay_57)))))
theorem dX4_passDay_78 : decode cX4_passDay 78 = .ok (.getfield 87, 3) := zk_of (zk_r (zk_r (zk_l (zk_r (zk_l zdX4_passDay_57)))))
theorem dX4_passDay_81 : decode cX4_passDay 81 = .ok (.iload_n 3, 1) := zk_of (zk_l (zk_l (zk_r (zk_r (zk_l zdX4_passDay_57)))))
theorem dX4_passDay_82 : decode cX4_passDay 82 = .ok (.iaload, 1) := zk_of (zk_r (zk_l (zk_r (zk_r (zk_l zdX4_passDay_57)))))
theorem dX4_passDay_83 : decode cX4_passDay 83 = .ok (.dup2, 1) := zk_of (zk_l (zk_r (zk_r (zk_r (zk_l zdX4_passDay_57)))))
theorem dX4_passDay_84 : decode cX4_passDay 84 = .ok (.laload, 1) := zk_of (zk_r (zk_r (zk_r (zk_r (zk_l zdX4_passDay_57)))))
theorem dX4_passDay_85 : decode cX4_passDay 85 = .ok (.aload_n 0, 1) := zk_of (zk_l (zk_l (zk_l (zk_l (zk_r zdX4_passDay_57)))))
theorem dX4_passDay_86 : decode cX4_passDay 86 = .ok (.getfield 9, 3) := zk_of (zk_r (zk_l (zk_l (zk_l (zk_r zdX4_passDay_57)))))
theorem dX4_passDay_89 : decode cX4_passDay 89 = .ok (.aload_n 0, 1) := zk_of (zk_l (zk_r (zk_l (zk_l (zk_r zdX4_passDay_57)))))
theorem dX4_passDay_90 : decode cX4_passDay 90 = .ok (.getfield 18, 3) := zk_of (zk_r (zk_r (zk_l (zk_l (zk_r zdX4_passDay_57)))))
theorem dX4_passDay_93 : decode cX4_passDay 93 = .ok (.getfield 90, 3) := zk_of (zk_l (zk_l (zk_r (zk_l (zk_r zdX4_passDay_57)))))
theorem dX4_passDay_96 : decode cX4_passDay 96 = .ok (.iload_n 3, 1) := zk_of (zk_r (zk_l (zk_r (zk_l (zk_r zdX4_passDay_57)))))
theorem dX4_passDay_97 : decode cX4_passDay 97 = .ok (.iaload, 1) := zk_of (zk_l (zk_r (zk_r (zk_l (zk_r zdX4_passDay_57)))))
theorem dX4_passDay_98 : decode cX4_passDay 98 = .ok (.laload, 1) := zk_of (zk_r (zk_r (zk_r (zk_l (zk_r zdX4_passDay_57)))))
theorem dX4_passDay_99 : decode cX4_passDay 99 = .ok (.lor, 1) := zk_of (zk_l (zk_l (zk_l (zk_r (zk_r zdX4_passDay_57)))))
theorem dX4_passDay_100 : decode cX4_passDay 100 = .ok (.lastore, 1) := zk_of (zk_r (zk_l (zk_l (zk_r (zk_r zdX4_passDay_57)))))
theorem dX4_passDay_101 : decode cX4_passDay 101 = .ok (.iinc 3 1, 3) := zk_of (zk_l (zk_r (zk_l (zk_r (zk_r zdX4_passDay_57)))))
theorem dX4_passDay_104 : decode cX4_passDay 104 = .ok (.goto (-58), 3) := zk_of (zk_r (zk_r (zk_l (zk_r (zk_r zdX4_passDay_57)))))
theorem dX4_passDay_44 : decode cX4_passDay 44 = .ok (.iload_n 2, 1) := zk_of (zk_l (zk_l (zk_r (zk_r (zk_r zdX4_passDay_57)))))
theorem dX4_passDay_45 : decode cX4_passDay 45 = .ok (.istore_n 3, 1) := zk_of (zk_r (zk_l (zk_r (zk_r (zk_r zdX4_passDay_57)))))
theorem dX4_passDay_0 : decode cX4_passDay 0 = .ok (.iconst 0, 1) := zk_of (zk_l (zk_r (zk_r (zk_r (zk_r zdX4_passDay_57)))))
theorem dX4_passDay_1 : decode cX4_passDay 1 = .ok (.istore_n 3, 1) := zk_of (zk_r (zk_r (zk_r (zk_r (zk_r zdX4_passDay_57)))))
/-- HissHorn$Meeting.passDay(II)I of cell 12 -/
def rmX4_passDay_12 : Room := { frames := 1, cells := 0, slots := 0, locals := 22 }
theorem hX4_passDay_12_X4 : ∀ w ∈ u_ws RX4 TX4 7, w ∈ wsX4_passDay := fun w h => (List.mem_cons_of_mem _ (List.mem_append_left _ (List.mem_append_right _ h)))
theorem mX4_passDay_12_1 : Cond.fieldLink RX4 9 "HissHorn$Meeting" "ahead" "[J" ∈ wsX4_passDay := (List.mem_cons_of_mem _ (List.mem_append_left _ (List.mem_append_left _ (List.mem_append_left _ (List.mem_of_getElem? (i := 4) rfl)))))
theorem mX4_passDay_12_2 : Cond.fieldLink RX4 15 "HissHorn$Meeting" "behind" "[J" ∈ wsX4_passDay := (List.mem_cons_of_mem _ (List.mem_append_left _ (List.mem_append_left _ (List.mem_append_left _ (List.mem_of_getElem? (i := 5) rfl)))))
theorem mX4_passDay_12_3 : Cond.fieldLink RX4 18 "HissHorn$Meeting" "houses" "LHissHorn$Houses;" ∈ wsX4_passDay := (List.mem_cons_of_mem _ (List.mem_append_left _ (List.mem_append_left _ (List.mem_append_left _ (List.mem_of_getElem? (i := 6) rfl)))))
def LX4_passDay_12_2 (k44 : Int32 → Int32 → SX → Option (Int32 × SX)) : Nat → Int32 → Int32 → Int32 → SX → Option (Int32 × SX)
  | 0, _, _, _, _ => none
  | n + 1, z1, z2, z3, u => (if 8 ≤ z3 then (k44 z1 z2 u) else (gd (inb z3 8) (gd (inb z3 8) (lt (sB u 71 (vp_updL (u.2.2.2.1 71) z3.toNatClampNeg (u.2.2.2.1 72 z3.toNatClampNeg))) fun u3 => (gd (inb z3 8) ((fX2_toldBy_11 z3 z1 u3).bind fun q => match q with | (r6, u7) => (gd (inb z3 8) (lt (sB u7 72 (vp_updL (u7.2.2.2.1 72) z3.toNatClampNeg ((u3.2.2.2.1 72 z3.toNatClampNeg) ||| r6))) fun u10 => ((LX4_passDay_12_2 k44 n) z1 z2 (z3 + 1) u10)))))))))
theorem hX4_passDay_12_X2 : ∀ w ∈ u_ws RX2 TX2 18, w ∈ wsX4_passDay := fun w h => (List.mem_cons_of_mem _ (List.mem_append_right _ h))
theorem mX4_passDay_12_5 : Cond.fieldLink RX4 69 "HissHorn$Houses" "letters" "I" ∈ wsX4_passDay := (List.mem_cons_of_mem _ (List.mem_append_left _ (List.mem_append_left _ (List.mem_append_left _ (List.mem_of_getElem? (i := 7) rfl)))))
theorem mX4_passDay_12_6 : Cond.fieldLink RX4 65 "HissHorn$Houses" "letterDay" "[I" ∈ wsX4_passDay := (List.mem_cons_of_mem _ (List.mem_append_left _ (List.mem_append_left _ (List.mem_append_left _ (List.mem_of_getElem? (i := 8) rfl)))))
theorem mX4_passDay_12_7 : Cond.fieldLink RX4 87 "HissHorn$Houses" "letterTo" "[I" ∈ wsX4_passDay := (List.mem_cons_of_mem _ (List.mem_append_left _ (List.mem_append_left _ (List.mem_append_left _ (List.mem_of_getElem? (i := 9) rfl)))))
theorem mX4_passDay_12_8 : Cond.fieldLink RX4 90 "HissHorn$Houses" "letterFrom" "[I" ∈ wsX4_passDay := (List.mem_cons_of_mem _ (List.mem_append_left _ (List.mem_append_left _ (List.mem_append_left _ (List.mem_of_getElem? (i := 10) rfl)))))
def LX4_passDay_12_46  : Nat → Int32 → Int32 → SX → Option (Int32 × SX)
  | 0, _, _, _ => none
  | n + 1, z1, z3, u => (if (u.1 38) ≤ z3 then (some (z3, u)) else (gd (inb z3 60) (if (u.2.1 62 z3.toNatClampNeg) = z1 then (gd (inb z3 60) (gd (inb (u.2.1 61 z3.toNatClampNeg) 8) (gd (inb z3 60) (gd (inb (u.2.1 60 z3.toNatClampNeg) 8) (gd (inb (u.2.1 61 z3.toNatClampNeg) 8) (lt (sB u 72 (vp_updL (u.2.2.2.1 72) (u.2.1 61 z3.toNatClampNeg).toNatClampNeg ((u.2.2.2.1 72 (u.2.1 61 z3.toNatClampNeg).toNatClampNeg) ||| (u.2.2.2.1 71 (u.2.1 60 z3.toNatClampNeg).toNatClampNeg)))) fun u18 => ((LX4_passDay_12_46 n) z1 (z3 + 1) u18))))))) else (some (z3, u)))))
def GX4_passDay_12_44 (z1 : Int32) (z2 : Int32) (u : SX) : Option (Int32 × SX) := (LX4_passDay_12_46  5000 z1 z2 u)
def fX4_passDay_12 (x1 : Int32) (x2 : Int32) (u : SX) : Option (Int32 × SX) := (LX4_passDay_12_2 GX4_passDay_12_44 5000 x1 x2 0 u)
set_option maxHeartbeats 4000000 in
set_option maxRecDepth 100000 in
theorem wLX4_passDay_12_2 {p : Program} {l : Launch} {e : Env} {s : State} {m : MethodId} {args : Array Value} {below : List Frame} {meth : Method} {c : Code} {D : va_G} {cy : Nat → ClassId} {ad st : Nat → Nat} (C : Cx RX4 cX4_passDay 4 (some .int) wsX4_passDay p s m args meth c) (hK : Ky D [(cy 0, .int), (cy 1, .long), (cy 2, .boolean), (cy 3, .byte), (cy 4, .object "HissHorn$Text")] st s) (hJ : JX ad st) {r : Int32} {u' : SX} {k44 : Int32 → Int32 → SX → Option (Int32 × SX)} (hk44 : ∀ (z1 : Int32) (z2 : Int32) (u : SX) (H : Heap) (locs : List Loc) (ls : Array Slot), k44 z1 z2 u = some (r, u') → va_P D vwCl (VX cy ad st u) H → va_S (Ax (AX ad) s.heap.size) s.heap H locs → lv_has ls 4 [(0, .ref (ad 12)), (1, .int z1), (2, .int z2)] → W p l e rmX4_passDay_12 s m args below meth c H locs 0 0 (MQ below (Qi D (VX cy ad st) (AX ad) s.heap.size r u') args s 0 0 (Ax (AX ad) s.heap.size)) (F0 m 44 ls [])) : ∀ (n : Nat) (z1 : Int32) (z2 : Int32) (z3 : Int32) (u : SX) (H : Heap) (locs : List Loc) (ls : Array Slot), LX4_passDay_12_2 k44 n z1 z2 z3 u = some (r, u') → va_P D vwCl (VX cy ad st u) H → va_S (Ax (AX ad) s.heap.size) s.heap H locs → lv_has ls 4 [(0, .ref (ad 12)), (1, .int z1), (2, .int z2), (3, .int z3)] → W p l e rmX4_passDay_12 s m args below meth c H locs 0 0 (MQ below (Qi D (VX cy ad st) (AX ad) s.heap.size r u') args s 0 0 (Ax (AX ad) s.heap.size)) (F0 m 2 ls []) := by
  intro n
  induction n with
  | zero =>
    intro z1 z2 z3 u H locs ls h
    exact absurd h (by intro q; cases q)
  | succ n ih =>
    intro z1 z2 z3 u H locs ls h hP hS hl
    rw [LX4_passDay_12_2] at h
    refine lv_iload_n C.1 C.2.1 dX4_passDay_2 rfl (lv_at hl 3 rfl) ?_
    refine lv_bipush (v := 8) C.1 C.2.1 dX4_passDay_3 (by decide) ?_
    refine lv_icmp_ge (tgt := 44) C.1 C.2.1 dX4_passDay_5 (by decide) (fun c5 => ?_) (fun c5 => ?_)
    · rw [if_pos c5] at h
      exact hk44 _ _ _ _ _ _ h hP hS (lv_sub hl [0, 1, 2] rfl)
    · rw [if_neg c5] at h
      refine lv_aload_n C.1 C.2.1 dX4_passDay_8 rfl (lv_at hl 0 rfl) ?_
      refine gX_12_ahead C hX4_passDay_12_X4 hK hP mX4_passDay_12_1 dX4_passDay_9 ?_
      refine lv_iload_n C.1 C.2.1 dX4_passDay_12 rfl (lv_at hl 3 rfl) ?_
      refine lv_aload_n C.1 C.2.1 dX4_passDay_13 rfl (lv_at hl 0 rfl) ?_
      refine gX_12_behind C hX4_passDay_12_X4 hK hP mX4_passDay_12_2 dX4_passDay_14 ?_
      refine lv_iload_n C.1 C.2.1 dX4_passDay_17 rfl (lv_at hl 3 rfl) ?_
      obtain ⟨hg1, h⟩ := gd_some h
      refine lX_72 C hK hP hg1 dX4_passDay_18 ?_
      obtain ⟨hg2, h⟩ := gd_some h
      refine tX_71 C hK hP hJ hS hg2 dX4_passDay_19 (fun H locs hP hS => ?_)
      obtain ⟨u3, hu4, h⟩ := lt_some h
      rw [← hu4] at hP
      refine lv_aload_n C.1 C.2.1 dX4_passDay_20 rfl (lv_at hl 0 rfl) ?_
      refine gX_12_behind C hX4_passDay_12_X4 hK hP mX4_passDay_12_2 dX4_passDay_21 ?_
      refine lv_iload_n C.1 C.2.1 dX4_passDay_24 rfl (lv_at hl 3 rfl) ?_
      refine lv_dup2_11 C.1 C.2.1 dX4_passDay_25 rfl rfl ?_
      obtain ⟨hg5, h⟩ := gd_some h
      refine lX_72 C hK hP hg5 dX4_passDay_26 ?_
      refine lv_aload_n C.1 C.2.1 dX4_passDay_27 rfl (lv_at hl 0 rfl) ?_
      refine gX_12_houses C hX4_passDay_12_X4 hK hP mX4_passDay_12_3 dX4_passDay_28 ?_
      refine lv_iload_n C.1 C.2.1 dX4_passDay_31 rfl (lv_at hl 3 rfl) ?_
      refine lv_iload_n C.1 C.2.1 dX4_passDay_32 rfl (lv_at hl 1 rfl) ?_
      obtain ⟨⟨r6, u7⟩, hc8, h⟩ := bd_some h
      try dsimp only at h
      refine cg_l (As := [.int z3, .int z1]) (rest := [.long (u3.2.2.2.1 72 z3.toNatClampNeg), .int z3, .ref (ad 72)]) (AX_ge hJ) C hK hP hS (metX2_toldBy_11 l D cy ad st hJ _ z3 z1 hc8) (cwV 2 C.2.2.2.2.2.1 gX4_passDay_X2_toldBy rfl rfl rfl (by decide +kernel) ⟨(Nat.le_of_ble_eq_true rfl), (Nat.le_of_ble_eq_true rfl)⟩) 11 2 rfl rfl rfl hl.1 rfl (Nat.le_of_ble_eq_true rfl) dX4_passDay_33 ⟨Nat.zero_le _, Nat.zero_le _⟩ (fun H locs hP hS => ?_)
      refine lv_lor C.1 C.2.1 dX4_passDay_36 ?_
      obtain ⟨hg9, h⟩ := gd_some h
      refine tX_72 C hK hP hJ hS hg9 dX4_passDay_37 (fun H locs hP hS => ?_)
      obtain ⟨u10, hu11, h⟩ := lt_some h
      rw [← hu11] at hP
      refine lv_iinc (v := z3 + 1) (lv' := [(3, .int (z3 + 1)), (0, .ref (ad 12)), (1, .int z1), (2, .int z2)]) C.1 C.2.1 dX4_passDay_38 hl (k := 3) rfl rfl (by decide) rfl (fun ls hl => ?_)
      replace hl := lv_sub (l' := [(0, .ref (ad 12)), (1, .int z1), (2, .int z2), (3, .int (z3 + 1))]) hl [1, 2, 3, 0] rfl
      refine lv_goto (tgt := 2) C.1 C.2.1 dX4_passDay_41 (by decide) ?_
      exact ih _ _ _ _ _ _ _ h hP hS hl
set_option maxHeartbeats 4000000 in
set_option maxRecDepth 100000 in
theorem wLX4_passDay_12_46 {p : Program} {l : Launch} {e : Env} {s : State} {m : MethodId} {args : Array Value} {below : List Frame} {meth : Method} {c : Code} {D : va_G} {cy : Nat → ClassId} {ad st : Nat → Nat} (C : Cx RX4 cX4_passDay 4 (some .int) wsX4_passDay p s m args meth c) (hK : Ky D [(cy 0, .int), (cy 1, .long), (cy 2, .boolean), (cy 3, .byte), (cy 4, .object "HissHorn$Text")] st s) (hJ : JX ad st) {r : Int32} {u' : SX}   : ∀ (n : Nat) (z1 : Int32) (z3 : Int32) (u : SX) (H : Heap) (locs : List Loc) (ls : Array Slot), LX4_passDay_12_46  n z1 z3 u = some (r, u') → va_P D vwCl (VX cy ad st u) H → va_S (Ax (AX ad) s.heap.size) s.heap H locs → lv_has ls 4 [(0, .ref (ad 12)), (1, .int z1), (3, .int z3)] → W p l e rmX4_passDay_12 s m args below meth c H locs 0 0 (MQ below (Qi D (VX cy ad st) (AX ad) s.heap.size r u') args s 0 0 (Ax (AX ad) s.heap.size)) (F0 m 46 ls []) := by
  intro n
  induction n with
  | zero =>
    intro z1 z3 u H locs ls h
    exact absurd h (by intro q; cases q)
  | succ n ih =>
    intro z1 z3 u H locs ls h hP hS hl
    rw [LX4_passDay_12_46] at h
    refine lv_iload_n C.1 C.2.1 dX4_passDay_46 rfl (lv_at hl 2 rfl) ?_
    refine lv_aload_n C.1 C.2.1 dX4_passDay_47 rfl (lv_at hl 0 rfl) ?_
    refine gX_12_houses C hX4_passDay_12_X4 hK hP mX4_passDay_12_3 dX4_passDay_48 ?_
    refine gX_11_letters C hX4_passDay_12_X2 hK hP mX4_passDay_12_5 dX4_passDay_51 ?_
    refine lv_icmp_ge (tgt := 107) C.1 C.2.1 dX4_passDay_54 (by decide) (fun c54 => ?_) (fun c54 => ?_)
    · rw [if_pos c54] at h
      refine lv_iload_n C.1 C.2.1 dX4_passDay_107 rfl (lv_at hl 2 rfl) ?_
      cases h
      exact rt_i C hP hS dX4_passDay_108
    · rw [if_neg c54] at h
      refine lv_aload_n C.1 C.2.1 dX4_passDay_57 rfl (lv_at hl 0 rfl) ?_
      refine gX_12_houses C hX4_passDay_12_X4 hK hP mX4_passDay_12_3 dX4_passDay_58 ?_
      refine gX_11_letterDay C hX4_passDay_12_X2 hK hP mX4_passDay_12_6 dX4_passDay_61 ?_
      refine lv_iload_n C.1 C.2.1 dX4_passDay_64 rfl (lv_at hl 2 rfl) ?_
      obtain ⟨hg12, h⟩ := gd_some h
      refine lX_62 C hK hP hg12 dX4_passDay_65 ?_
      refine lv_iload_n C.1 C.2.1 dX4_passDay_66 rfl (lv_at hl 1 rfl) ?_
      refine lv_icmp_ne (tgt := 107) C.1 C.2.1 dX4_passDay_67 (by decide) (fun c67 => ?_) (fun c67 => ?_)
      · rw [if_neg c67] at h
        refine lv_iload_n C.1 C.2.1 dX4_passDay_107 rfl (lv_at hl 2 rfl) ?_
        cases h
        exact rt_i C hP hS dX4_passDay_108
      · rw [if_pos c67] at h
        refine lv_aload_n C.1 C.2.1 dX4_passDay_70 rfl (lv_at hl 0 rfl) ?_
        refine gX_12_behind C hX4_passDay_12_X4 hK hP mX4_passDay_12_2 dX4_passDay_71 ?_
        refine lv_aload_n C.1 C.2.1 dX4_passDay_74 rfl (lv_at hl 0 rfl) ?_
        refine gX_12_houses C hX4_passDay_12_X4 hK hP mX4_passDay_12_3 dX4_passDay_75 ?_
        refine gX_11_letterTo C hX4_passDay_12_X2 hK hP mX4_passDay_12_7 dX4_passDay_78 ?_
        refine lv_iload_n C.1 C.2.1 dX4_passDay_81 rfl (lv_at hl 2 rfl) ?_
        obtain ⟨hg13, h⟩ := gd_some h
        refine lX_61 C hK hP hg13 dX4_passDay_82 ?_
        refine lv_dup2_11 C.1 C.2.1 dX4_passDay_83 rfl rfl ?_
        obtain ⟨hg14, h⟩ := gd_some h
        refine lX_72 C hK hP hg14 dX4_passDay_84 ?_
        refine lv_aload_n C.1 C.2.1 dX4_passDay_85 rfl (lv_at hl 0 rfl) ?_
        refine gX_12_ahead C hX4_passDay_12_X4 hK hP mX4_passDay_12_1 dX4_passDay_86 ?_
        refine lv_aload_n C.1 C.2.1 dX4_passDay_89 rfl (lv_at hl 0 rfl) ?_
        refine gX_12_houses C hX4_passDay_12_X4 hK hP mX4_passDay_12_3 dX4_passDay_90 ?_
        refine gX_11_letterFrom C hX4_passDay_12_X2 hK hP mX4_passDay_12_8 dX4_passDay_93 ?_
        refine lv_iload_n C.1 C.2.1 dX4_passDay_96 rfl (lv_at hl 2 rfl) ?_
        obtain ⟨hg15, h⟩ := gd_some h
        refine lX_60 C hK hP hg15 dX4_passDay_97 ?_
        obtain ⟨hg16, h⟩ := gd_some h
        refine lX_71 C hK hP hg16 dX4_passDay_98 ?_
        refine lv_lor C.1 C.2.1 dX4_passDay_99 ?_
        obtain ⟨hg17, h⟩ := gd_some h
        refine tX_72 C hK hP hJ hS hg17 dX4_passDay_100 (fun H locs hP hS => ?_)
        obtain ⟨u18, hu19, h⟩ := lt_some h
        rw [← hu19] at hP
        refine lv_iinc (v := z3 + 1) (lv' := [(3, .int (z3 + 1)), (0, .ref (ad 12)), (1, .int z1)]) C.1 C.2.1 dX4_passDay_101 hl (k := 2) rfl rfl (by decide) rfl (fun ls hl => ?_)
        replace hl := lv_sub (l' := [(0, .ref (ad 12)), (1, .int z1), (3, .int (z3 + 1))]) hl [1, 2, 0] rfl
        refine lv_goto (tgt := 46) C.1 C.2.1 dX4_passDay_104 (by decide) ?_
        exact ih _ _ _ _ _ _ h hP hS hl
set_option maxHeartbeats 4000000 in
set_option maxRecDepth 100000 in
theorem wGX4_passDay_12_44 {p : Program} {l : Launch} {e : Env} {s : State} {m : MethodId} {args : Array Value} {below : List Frame} {meth : Method} {c : Code} {D : va_G} {cy : Nat → ClassId} {ad st : Nat → Nat} (C : Cx RX4 cX4_passDay 4 (some .int) wsX4_passDay p s m args meth c) (hK : Ky D [(cy 0, .int), (cy 1, .long), (cy 2, .boolean), (cy 3, .byte), (cy 4, .object "HissHorn$Text")] st s) (hJ : JX ad st) {r : Int32} {u' : SX}   (z1 : Int32) (z2 : Int32) (u : SX) (H : Heap) (locs : List Loc) (ls : Array Slot) (h : GX4_passDay_12_44 z1 z2 u = some (r, u')) (hP : va_P D vwCl (VX cy ad st u) H) (hS : va_S (Ax (AX ad) s.heap.size) s.heap H locs) (hl : lv_has ls 4 [(0, .ref (ad 12)), (1, .int z1), (2, .int z2)]) : W p l e rmX4_passDay_12 s m args below meth c H locs 0 0 (MQ below (Qi D (VX cy ad st) (AX ad) s.heap.size r u') args s 0 0 (Ax (AX ad) s.heap.size)) (F0 m 44 ls []) := by
  unfold GX4_passDay_12_44 at h
  refine lv_iload_n C.1 C.2.1 dX4_passDay_44 rfl (lv_at hl 2 rfl) ?_
  refine lv_istore_n (lv' := [(3, .int z2), (0, .ref (ad 12)), (1, .int z1), (2, .int z2)]) C.1 C.2.1 dX4_passDay_45 rfl hl (by decide) rfl (fun ls hl => ?_)
  replace hl := lv_sub (l' := [(0, .ref (ad 12)), (1, .int z1), (2, .int z2), (3, .int z2)]) hl [1, 2, 3, 0] rfl
  exact wLX4_passDay_12_46 C hK hJ  5000 _ _ _ _ _ _ h hP hS (lv_sub hl [0, 1, 3] rfl)
set_option maxHeartbeats 4000000 in
set_option maxRecDepth 100000 in
theorem wX4_passDay_12 {p : Program} {l : Launch} {e : Env} {s : State} {m : MethodId} {args : Array Value} {below : List Frame} {meth : Method} {c : Code} {D : va_G} {cy : Nat → ClassId} {ad st : Nat → Nat} (C : Cx RX4 cX4_passDay 4 (some .int) wsX4_passDay p s m args meth c) (hK : Ky D [(cy 0, .int), (cy 1, .long), (cy 2, .boolean), (cy 3, .byte), (cy 4, .object "HissHorn$Text")] st s) (hJ : JX ad st) (x1 : Int32) (x2 : Int32) {u : SX} {r : Int32} {u' : SX} {H : Heap} {locs : List Loc} {ls : Array Slot} (h : fX4_passDay_12 x1 x2 u = some (r, u')) (hP : va_P D vwCl (VX cy ad st u) H) (hS : va_S (Ax (AX ad) s.heap.size) s.heap H locs) (hl : lv_has ls 4 [(0, .ref (ad 12)), (1, .int x1), (2, .int x2)]) : W p l e rmX4_passDay_12 s m args below meth c H locs 0 0 (MQ below (Qi D (VX cy ad st) (AX ad) s.heap.size r u') args s 0 0 (Ax (AX ad) s.heap.size)) (F0 m 0 ls []) := by
  unfold fX4_passDay_12 at h
  refine lv_iconst (v := 0) C.1 C.2.1 dX4_passDay_0 (by decide) ?_
  refine lv_istore_n (lv' := [(3, .int 0), (0, .ref (ad 12)), (1, .int x1), (2, .int x2)]) C.1 C.2.1 dX4_passDay_1 rfl hl (by decide) rfl (fun ls hl => ?_)
  replace hl := lv_sub (l' := [(0, .ref (ad 12)), (1, .int x1), (2, .int x2), (3, .int 0)]) hl [1, 2, 3, 0] rfl
  exact wLX4_passDay_12_2 C hK hJ (wGX4_passDay_12_44 C hK hJ ) 5000 _ _ _ _ _ _ _ h hP hS hl
theorem metX4_passDay_12 (l : Launch) (D : va_G) (cy : Nat → ClassId) (ad st : Nat → Nat) (hJ : JX ad st) (sz : Nat) (x1 : Int32) (x2 : Int32) {u : SX} {r : Int32} {u' : SX} (h : fX4_passDay_12 x1 x2 u = some (r, u')) : Met l yX4_passDay wsX4_passDay rmX4_passDay_12 (va_Pc [.ref (ad 12), .int x1, .int x2] (Px D [(cy 0, .int), (cy 1, .long), (cy 2, .boolean), (cy 3, .byte), (cy 4, .object "HissHorn$Text")] st (VX cy ad st) sz u)) (Qi D (VX cy ad st) (AX ad) sz r u') 0 0 (Ax (AX ad) sz) := by
  refine Met.ofW (cc := cX4_passDay) (maxL := 4) (ret := (some .int)) (by decide) rfl ?_
  intro p e s m args below meth c s₁ B hml hv
  obtain ⟨rfl, hsz, hP, hK⟩ := hv
  subst hsz
  have C : Cx RX4 cX4_passDay 4 (some .int) wsX4_passDay p s m _ meth c := ⟨B.exec, B.bytes, hml, B.returns, findClass_of_methodNamed B.named, atoms_spec (ws := wsX4_passDay) B.pre, B.notSynchronized⟩
  have hl := lv_entry ([.ref (ad 12), .int x1, .int x2]) (n := 4) (Nat.le_of_ble_eq_true rfl)
  rw [lg_entry_eq]
  exact wX4_passDay_12 C hK hJ x1 x2 h hP va_S.rf hl

theorem zdX4_anyMet_47 : (and (and (and (and (and (zk cX4_anyMet 47 (.iinc 1 1) 3) (zk cX4_anyMet 50 (.goto (-48)) 3)) (and (zk cX4_anyMet 2 (.iload_n 1) 1) (zk cX4_anyMet 3 (.aload_n 0) 1))) (and (and (zk cX4_anyMet 4 (.getfield 18) 3) (zk cX4_anyMet 7 (.getfield 28) 3)) (and (zk cX4_anyMet 10 (.if_icmp .ge 43) 3) (zk cX4_anyMet 53 (.iconst 0) 1)))) (and (and (and (zk cX4_anyMet 54 (.ireturn) 1) (zk cX4_anyMet 13 (.aload_n 0) 1)) (and (zk cX4_anyMet 14 (.getfield 15) 3) (zk cX4_anyMet 17 (.iload_n 1) 1))) (and (and (zk cX4_anyMet 18 (.laload) 1) (zk cX4_anyMet 19 (.aload_n 0) 1)) (and (zk cX4_anyMet 20 (.getfield 9) 3) (zk cX4_anyMet 23 (.iload_n 1) 1))))) (and (and (and (and (zk cX4_anyMet 24 (.laload) 1) (zk cX4_anyMet 25 (.lcmp) 1)) (and (zk cX4_anyMet 26 (.ifCond .eq 21) 3) (zk cX4_anyMet 29 (.aload_n 0) 1))) (and (and (zk cX4_anyMet 30 (.getfield 18) 3) (zk cX4_anyMet 33 (.aload_n 0) 1)) (and (zk cX4_anyMet 34 (.getfield 15) 3) (zk cX4_anyMet 37 (.iload_n 1) 1)))) (and (and (and (zk cX4_anyMet 38 (.laload) 1) (zk cX4_anyMet 39 (.invokevirtual 36) 3)) (and (zk cX4_anyMet 42 (.ifCond .eq 5) 3) (zk cX4_anyMet 45 (.iconst 1) 1))) (and (and (zk cX4_anyMet 46 (.ireturn) 1) (zk cX4_anyMet 0 (.iconst 0) 1)) (zk cX4_anyMet 1 (.istore_n 1) 1))))) = true := by decide +kernel
theorem dX4_anyMet_47 : decode cX4_anyMet 47 = .ok (.iinc 1 1, 3) := zk_of (zk_l (zk_l (zk_l (zk_l (zk_l zdX4_anyMet_47)))))
theorem dX4_anyMet_50 : decode cX4_anyMet 50 = .ok (.goto (-48), 3) := zk_of (zk_r (zk_l (zk_l (zk_l (zk_l zdX4_anyMet_47)))))
theorem dX4_anyMet_2 : decode cX4_anyMet 2 = .ok (.iload_n 1, 1) := zk_of (zk_l (zk_r (zk_l (zk_l (zk_l zdX4_anyMet_47)))))
theorem dX4_anyMet_3 : decode cX4_anyMet 3 = .ok (.aload_n 0, 1) := zk_of (zk_r (zk_r (zk_l (zk_l (zk_l zdX4_anyMet_47)))))
theorem dX4_anyMet_4 : decode cX4_anyMet 4 = .ok (.getfield 18, 3) := zk_of (zk_l (zk_l (zk_r (zk_l (zk_l zdX4_anyMet_47)))))
theorem dX4_anyMet_7 : decode cX4_anyMet 7 = .ok (.getfield 28, 3) := zk_of (zk_r (zk_l (zk_r (zk_l (zk_l zdX4_anyMet_47)))))
theorem dX4_anyMet_10 : decode cX4_anyMet 10 = .ok (.if_icmp .ge 43, 3) := zk_of (zk_l (zk_r (zk_r (zk_l (zk_l zdX4_anyMet_47)))))
theorem dX4_anyMet_53 : decode cX4_anyMet 53 = .ok (.iconst 0, 1) := zk_of (zk_r (zk_r (zk_r (zk_l (zk_l zdX4_anyMet_47)))))
theorem dX4_anyMet_54 : decode cX4_anyMet 54 = .ok (.ireturn, 1) := zk_of (zk_l (zk_l (zk_l (zk_r (zk_l zdX4_anyMet_47)))))
theorem dX4_anyMet_13 : decode cX4_anyMet 13 = .ok (.aload_n 0, 1) := zk_of (zk_r (zk_l (zk_l (zk_r (zk_l zdX4_anyMet_47)))))
theorem dX4_anyMet_14 : decode cX4_anyMet 14 = .ok (.getfield 15, 3) := zk_of (zk_l (zk_r (zk_l (zk_r (zk_l zdX4_anyMet_47)))))
theorem dX4_anyMet_17 : decode cX4_anyMet 17 = .ok (.iload_n 1, 1) := zk_of (zk_r (zk_r (zk_l (zk_r (zk_l zdX4_anyMet_47)))))
theorem dX4_anyMet_18 : decode cX4_anyMet 18 = .ok (.laload, 1) := zk_of (zk_l (zk_l (zk_r (zk_r (zk_l zdX4_anyMet_47)))))
theorem dX4_anyMet_19 : decode cX4_anyMet 19 = .ok (.aload_n 0, 1) := zk_of (zk_r (zk_l (zk_r (zk_r (zk_l zdX4_anyMet_47)))))
theorem dX4_anyMet_20 : decode cX4_anyMet 20 = .ok (.getfield 9, 3) := zk_of (zk_l (zk_r (zk_r (zk_r (zk_l zdX4_anyMet_47)))))
theorem dX4_anyMet_23 : decode cX4_anyMet 23 = .ok (.iload_n 1, 1) := zk_of (zk_r (zk_r (zk_r (zk_r (zk_l zdX4_anyMet_47)))))
theorem dX4_anyMet_24 : decode cX4_anyMet 24 = .ok (.laload, 1) := zk_of (zk_l (zk_l (zk_l (zk_l (zk_r zdX4_anyMet_47)))))
theorem dX4_anyMet_25 : decode cX4_anyMet 25 = .ok (.lcmp, 1) := zk_of (zk_r (zk_l (zk_l (zk_l (zk_r zdX4_anyMet_47)))))
theorem dX4_anyMet_26 : decode cX4_anyMet 26 = .ok (.ifCond .eq 21, 3) := zk_of (zk_l (zk_r (zk_l (zk_l (zk_r zdX4_anyMet_47)))))
theorem dX4_anyMet_29 : decode cX4_anyMet 29 = .ok (.aload_n 0, 1) := zk_of (zk_r (zk_r (zk_l (zk_l (zk_r zdX4_anyMet_47)))))
theorem dX4_anyMet_30 : decode cX4_anyMet 30 = .ok (.getfield 18, 3) := zk_of (zk_l (zk_l (zk_r (zk_l (zk_r zdX4_anyMet_47)))))
theorem dX4_anyMet_33 : decode cX4_anyMet 33 = .ok (.aload_n 0, 1) := zk_of (zk_r (zk_l (zk_r (zk_l (zk_r zdX4_anyMet_47)))))
theorem dX4_anyMet_34 : decode cX4_anyMet 34 = .ok (.getfield 15, 3) := zk_of (zk_l (zk_r (zk_r (zk_l (zk_r zdX4_anyMet_47)))))
theorem dX4_anyMet_37 : decode cX4_anyMet 37 = .ok (.iload_n 1, 1) := zk_of (zk_r (zk_r (zk_r (zk_l (zk_r zdX4_anyMet_47)))))
theorem dX4_anyMet_38 : decode cX4_anyMet 38 = .ok (.laload, 1) := zk_of (zk_l (zk_l (zk_l (zk_r (zk_r zdX4_anyMet_47)))))
theorem dX4_anyMet_39 : decode cX4_anyMet 39 = .ok (.invokevirtual 36, 3) := zk_of (zk_r (zk_l (zk_l (zk_r (zk_r zdX4_anyMet_47)))))
theorem dX4_anyMet_42 : decode cX4_anyMet 42 = .ok (.ifCond .eq 5, 3) := zk_of (zk_l (zk_r (zk_l (zk_r (zk_r zdX4_anyMet_47)))))
theorem dX4_anyMet_45 : decode cX4_anyMet 45 = .ok (.iconst 1, 1) := zk_of (zk_r (zk_r (zk_l (zk_r (zk_r zdX4_anyMet_47)))))
theorem dX4_anyMet_46 : decode cX4_anyMet 46 = .ok (.ireturn, 1) := zk_of (zk_l (zk_l (zk_r (zk_r (zk_r zdX4_anyMet_47)))))
theorem dX4_anyMet_0 : decode cX4_anyMet 0 = .ok (.iconst 0, 1) := zk_of (zk_r (zk_l (zk_r (zk_r (zk_r zdX4_anyMet_47)))))
theorem dX4_anyMet_1 : decode cX4_anyMet 1 = .ok (.istore_n 1, 1) := zk_of (zk_r (zk_r (zk_r (zk_r zdX4_anyMet_47))))
set_option maxRecDepth 20000 in
theorem ggX4_anyMet_X2_areMet : GoodIn wsX4_anyMet wsX2_areMet := ggi (fun w h => List.mem_cons_of_mem _ (List.mem_append_left _ (List.mem_append_left _ (List.mem_append_right _ h)))) gs_X2_areMet
set_option maxRecDepth 20000 in
theorem gX4_anyMet_X2_areMet : GoodIn wsX4_anyMet (wsV RX4 36 RX2 yX2_areMet wsX2_areMet) := goodIn_app (goodIn_of _ (by decide +kernel)) ggX4_anyMet_X2_areMet
/-- HissHorn$Meeting.anyMet()Z of cell 12 -/
def rmX4_anyMet_12 : Room := { frames := 2, cells := 0, slots := 0, locals := 43 }
theorem hX4_anyMet_12_X4 : ∀ w ∈ u_ws RX4 TX4 7, w ∈ wsX4_anyMet := fun w h => (List.mem_cons_of_mem _ (List.mem_append_left _ (List.mem_append_right _ h)))
theorem mX4_anyMet_12_1 : Cond.fieldLink RX4 18 "HissHorn$Meeting" "houses" "LHissHorn$Houses;" ∈ wsX4_anyMet := (List.mem_cons_of_mem _ (List.mem_append_left _ (List.mem_append_left _ (List.mem_append_left _ (List.mem_of_getElem? (i := 4) rfl)))))
theorem hX4_anyMet_12_X2 : ∀ w ∈ u_ws RX2 TX2 18, w ∈ wsX4_anyMet := fun w h => (List.mem_cons_of_mem _ (List.mem_append_right _ h))
theorem mX4_anyMet_12_3 : Cond.fieldLink RX4 28 "HissHorn$Houses" "size" "I" ∈ wsX4_anyMet := (List.mem_cons_of_mem _ (List.mem_append_left _ (List.mem_append_left _ (List.mem_append_left _ (List.mem_of_getElem? (i := 5) rfl)))))
theorem mX4_anyMet_12_4 : Cond.fieldLink RX4 15 "HissHorn$Meeting" "behind" "[J" ∈ wsX4_anyMet := (List.mem_cons_of_mem _ (List.mem_append_left _ (List.mem_append_left _ (List.mem_append_left _ (List.mem_of_getElem? (i := 6) rfl)))))
theorem mX4_anyMet_12_5 : Cond.fieldLink RX4 9 "HissHorn$Meeting" "ahead" "[J" ∈ wsX4_anyMet := (List.mem_cons_of_mem _ (List.mem_append_left _ (List.mem_append_left _ (List.mem_append_left _ (List.mem_of_getElem? (i := 7) rfl)))))
def GX4_anyMet_12_47 (k2 : Int32 → SX → Option (Int32 × SX)) (z1 : Int32) (u : SX) : Option (Int32 × SX) := (k2 (z1 + 1) u)
def LX4_anyMet_12_2  : Nat → Int32 → SX → Option (Int32 × SX)
  | 0, _, _ => none
  | n + 1, z1, u => (if (u.1 35) ≤ z1 then (gd (isB 0) (some (0, u))) else (gd (inb z1 8) (gd (inb z1 8) (if (lg_cmp (u.2.2.2.1 72 z1.toNatClampNeg) (u.2.2.2.1 71 z1.toNatClampNeg)) = 0 then (GX4_anyMet_12_47 (LX4_anyMet_12_2 n) z1 u) else (gd (inb z1 8) ((fX2_areMet_11 (u.2.2.2.1 72 z1.toNatClampNeg) u).bind fun q => match q with | (r5, u6) => (if r5 = 0 then (GX4_anyMet_12_47 (LX4_anyMet_12_2 n) z1 u6) else (gd (isB 1) (some (1, u6))))))))))
def fX4_anyMet_12  (u : SX) : Option (Int32 × SX) := (LX4_anyMet_12_2  5000 0 u)
set_option maxHeartbeats 4000000 in
set_option maxRecDepth 100000 in
theorem wGX4_anyMet_12_47 {p : Program} {l : Launch} {e : Env} {s : State} {m : MethodId} {args : Array Value} {below : List Frame} {meth : Method} {c : Code} {D : va_G} {cy : Nat → ClassId} {ad st : Nat → Nat} (C : Cx RX4 cX4_anyMet 2 (some .boolean) wsX4_anyMet p s m args meth c) (hK : Ky D [(cy 0, .int), (cy 1, .long), (cy 2, .boolean), (cy 3, .byte), (cy 4, .object "HissHorn$Text")] st s) (hJ : JX ad st) {r : Int32} {u' : SX} {k2 : Int32 → SX → Option (Int32 × SX)} (hk2 : ∀ (z1 : Int32) (u : SX) (H : Heap) (locs : List Loc) (ls : Array Slot), k2 z1 u = some (r, u') → va_P D vwCl (VX cy ad st u) H → va_S (Ax (AX ad) s.heap.size) s.heap H locs → lv_has ls 2 [(0, .ref (ad 12)), (1, .int z1)] → W p l e rmX4_anyMet_12 s m args below meth c H locs 0 0 (MQ below (Qi D (VX cy ad st) (AX ad) s.heap.size r u') args s 0 0 (Ax (AX ad) s.heap.size)) (F0 m 2 ls [])) (z1 : Int32) (u : SX) (H : Heap) (locs : List Loc) (ls : Array Slot) (h : GX4_anyMet_12_47 k2 z1 u = some (r, u')) (hP : va_P D vwCl (VX cy ad st u) H) (hS : va_S (Ax (AX ad) s.heap.size) s.heap H locs) (hl : lv_has ls 2 [(0, .ref (ad 12)), (1, .int z1)]) : W p l e rmX4_anyMet_12 s m args below meth c H locs 0 0 (MQ below (Qi D (VX cy ad st) (AX ad) s.heap.size r u') args s 0 0 (Ax (AX ad) s.heap.size)) (F0 m 47 ls []) := by
  unfold GX4_anyMet_12_47 at h
  refine lv_iinc (v := z1 + 1) (lv' := [(1, .int (z1 + 1)), (0, .ref (ad 12))]) C.1 C.2.1 dX4_anyMet_47 hl (k := 1) rfl rfl (by decide) rfl (fun ls hl => ?_)
  replace hl := lv_sub (l' := [(0, .ref (ad 12)), (1, .int (z1 + 1))]) hl [1, 0] rfl
  refine lv_goto (tgt := 2) C.1 C.2.1 dX4_anyMet_50 (by decide) ?_
  exact hk2 _ _ _ _ _ h hP hS hl
set_option maxHeartbeats 4000000 in
set_option maxRecDepth 100000 in
theorem wLX4_anyMet_12_2 {p : Program} {l : Launch} {e : Env} {s : State} {m : MethodId} {args : Array Value} {below : List Frame} {meth : Method} {c : Code} {D : va_G} {cy : Nat → ClassId} {ad st : Nat → Nat} (C : Cx RX4 cX4_anyMet 2 (some .boolean) wsX4_anyMet p s m args meth c) (hK : Ky D [(cy 0, .int), (cy 1, .long), (cy 2, .boolean), (cy 3, .byte), (cy 4, .object "HissHorn$Text")] st s) (hJ : JX ad st) {r : Int32} {u' : SX}   : ∀ (n : Nat) (z1 : Int32) (u : SX) (H : Heap) (locs : List Loc) (ls : Array Slot), LX4_anyMet_12_2  n z1 u = some (r, u') → va_P D vwCl (VX cy ad st u) H → va_S (Ax (AX ad) s.heap.size) s.heap H locs → lv_has ls 2 [(0, .ref (ad 12)), (1, .int z1)] → W p l e rmX4_anyMet_12 s m args below meth c H locs 0 0 (MQ below (Qi D (VX cy ad st) (AX ad) s.heap.size r u') args s 0 0 (Ax (AX ad) s.heap.size)) (F0 m 2 ls []) := by
  intro n
  induction n with
  | zero =>
    intro z1 u H locs ls h
    exact absurd h (by intro q; cases q)
  | succ n ih =>
    intro z1 u H locs ls h hP hS hl
    rw [LX4_anyMet_12_2] at h
    refine lv_iload_n C.1 C.2.1 dX4_anyMet_2 rfl (lv_at hl 1 rfl) ?_
    refine lv_aload_n C.1 C.2.1 dX4_anyMet_3 rfl (lv_at hl 0 rfl) ?_
    refine gX_12_houses C hX4_anyMet_12_X4 hK hP mX4_anyMet_12_1 dX4_anyMet_4 ?_
    refine gX_11_size C hX4_anyMet_12_X2 hK hP mX4_anyMet_12_3 dX4_anyMet_7 ?_
    refine lv_icmp_ge (tgt := 53) C.1 C.2.1 dX4_anyMet_10 (by decide) (fun c10 => ?_) (fun c10 => ?_)
    · rw [if_pos c10] at h
      refine lv_iconst (v := 0) C.1 C.2.1 dX4_anyMet_53 (by decide) ?_
      obtain ⟨hg1, h⟩ := gd_some h
      cases h
      exact rt_z hg1 C hP hS dX4_anyMet_54
    · rw [if_neg c10] at h
      refine lv_aload_n C.1 C.2.1 dX4_anyMet_13 rfl (lv_at hl 0 rfl) ?_
      refine gX_12_behind C hX4_anyMet_12_X4 hK hP mX4_anyMet_12_4 dX4_anyMet_14 ?_
      refine lv_iload_n C.1 C.2.1 dX4_anyMet_17 rfl (lv_at hl 1 rfl) ?_
      obtain ⟨hg2, h⟩ := gd_some h
      refine lX_72 C hK hP hg2 dX4_anyMet_18 ?_
      refine lv_aload_n C.1 C.2.1 dX4_anyMet_19 rfl (lv_at hl 0 rfl) ?_
      refine gX_12_ahead C hX4_anyMet_12_X4 hK hP mX4_anyMet_12_5 dX4_anyMet_20 ?_
      refine lv_iload_n C.1 C.2.1 dX4_anyMet_23 rfl (lv_at hl 1 rfl) ?_
      obtain ⟨hg3, h⟩ := gd_some h
      refine lX_71 C hK hP hg3 dX4_anyMet_24 ?_
      refine W.lcmp C.1 C.2.1 dX4_anyMet_25 ?_
      refine lv_if_eq (tgt := 47) C.1 C.2.1 dX4_anyMet_26 (by decide) (fun c26 => ?_) (fun c26 => ?_)
      · rw [if_pos c26] at h
        exact wGX4_anyMet_12_47 C hK hJ ih _ _ _ _ _ h hP hS hl
      · rw [if_neg c26] at h
        refine lv_aload_n C.1 C.2.1 dX4_anyMet_29 rfl (lv_at hl 0 rfl) ?_
        refine gX_12_houses C hX4_anyMet_12_X4 hK hP mX4_anyMet_12_1 dX4_anyMet_30 ?_
        refine lv_aload_n C.1 C.2.1 dX4_anyMet_33 rfl (lv_at hl 0 rfl) ?_
        refine gX_12_behind C hX4_anyMet_12_X4 hK hP mX4_anyMet_12_4 dX4_anyMet_34 ?_
        refine lv_iload_n C.1 C.2.1 dX4_anyMet_37 rfl (lv_at hl 1 rfl) ?_
        obtain ⟨hg4, h⟩ := gd_some h
        refine lX_72 C hK hP hg4 dX4_anyMet_38 ?_
        obtain ⟨⟨r5, u6⟩, hc7, h⟩ := bd_some h
        try dsimp only at h
        refine cg_i (As := [.long (u.2.2.2.1 72 z1.toNatClampNeg)]) (rest := []) (AX_ge hJ) C hK hP hS (metX2_areMet_11 l D cy ad st hJ _ (u.2.2.2.1 72 z1.toNatClampNeg) hc7) (cwV 1 C.2.2.2.2.2.1 gX4_anyMet_X2_areMet rfl rfl rfl (by decide +kernel) ⟨(Nat.le_of_ble_eq_true rfl), (Nat.le_of_ble_eq_true rfl)⟩) 11 2 rfl rfl rfl hl.1 rfl (Nat.le_of_ble_eq_true rfl) dX4_anyMet_39 ⟨Nat.zero_le _, Nat.zero_le _⟩ (fun H locs hP hS => ?_)
        refine lv_if_eq (tgt := 47) C.1 C.2.1 dX4_anyMet_42 (by decide) (fun c42 => ?_) (fun c42 => ?_)
        · rw [if_pos c42] at h
          exact wGX4_anyMet_12_47 C hK hJ ih _ _ _ _ _ h hP hS hl
        · rw [if_neg c42] at h
          refine lv_iconst (v := 1) C.1 C.2.1 dX4_anyMet_45 (by decide) ?_
          obtain ⟨hg8, h⟩ := gd_some h
          cases h
          exact rt_z hg8 C hP hS dX4_anyMet_46
set_option maxHeartbeats 4000000 in
set_option maxRecDepth 100000 in
theorem wX4_anyMet_12 {p : Program} {l : Launch} {e : Env} {s : State} {m : MethodId} {args : Array Value} {below : List Frame} {meth : Method} {c : Code} {D : va_G} {cy : Nat → ClassId} {ad st : Nat → Nat} (C : Cx RX4 cX4_anyMet 2 (some .boolean) wsX4_anyMet p s m args meth c) (hK : Ky D [(cy 0, .int), (cy 1, .long), (cy 2, .boolean), (cy 3, .byte), (cy 4, .object "HissHorn$Text")] st s) (hJ : JX ad st)  {u : SX} {r : Int32} {u' : SX} {H : Heap} {locs : List Loc} {ls : Array Slot} (h : fX4_anyMet_12  u = some (r, u')) (hP : va_P D vwCl (VX cy ad st u) H) (hS : va_S (Ax (AX ad) s.heap.size) s.heap H locs) (hl : lv_has ls 2 [(0, .ref (ad 12))]) : W p l e rmX4_anyMet_12 s m args below meth c H locs 0 0 (MQ below (Qi D (VX cy ad st) (AX ad) s.heap.size r u') args s 0 0 (Ax (AX ad) s.heap.size)) (F0 m 0 ls []) := by
  unfold fX4_anyMet_12 at h
  refine lv_iconst (v := 0) C.1 C.2.1 dX4_anyMet_0 (by decide) ?_
  refine lv_istore_n (lv' := [(1, .int 0), (0, .ref (ad 12))]) C.1 C.2.1 dX4_anyMet_1 rfl hl (by decide) rfl (fun ls hl => ?_)
  replace hl := lv_sub (l' := [(0, .ref (ad 12)), (1, .int 0)]) hl [1, 0] rfl
  exact wLX4_anyMet_12_2 C hK hJ  5000 _ _ _ _ _ h hP hS hl
theorem metX4_anyMet_12 (l : Launch) (D : va_G) (cy : Nat → ClassId) (ad st : Nat → Nat) (hJ : JX ad st) (sz : Nat)  {u : SX} {r : Int32} {u' : SX} (h : fX4_anyMet_12  u = some (r, u')) : Met l yX4_anyMet wsX4_anyMet rmX4_anyMet_12 (va_Pc [.ref (ad 12)] (Px D [(cy 0, .int), (cy 1, .long), (cy 2, .boolean), (cy 3, .byte), (cy 4, .object "HissHorn$Text")] st (VX cy ad st) sz u)) (Qi D (VX cy ad st) (AX ad) sz r u') 0 0 (Ax (AX ad) sz) := by
  refine Met.ofW (cc := cX4_anyMet) (maxL := 2) (ret := (some .boolean)) (by decide) rfl ?_
  intro p e s m args below meth c s₁ B hml hv
  obtain ⟨rfl, hsz, hP, hK⟩ := hv
  subst hsz
  have C : Cx RX4 cX4_anyMet 2 (some .boolean) wsX4_anyMet p s m _ meth c := ⟨B.exec, B.bytes, hml, B.returns, findClass_of_methodNamed B.named, atoms_spec (ws := wsX4_anyMet) B.pre, B.notSynchronized⟩
  have hl := lv_entry ([.ref (ad 12)]) (n := 2) (Nat.le_of_ble_eq_true rfl)
  rw [lg_entry_eq]
  exact wX4_anyMet_12 C hK hJ h hP va_S.rf hl

theorem zdX4_meetingBy_3 : (and (and (and (and (and (zk cX4_meetingBy 3 (.iload 6) 2) (zk cX4_meetingBy 5 (.bipush 8) 2)) (and (zk cX4_meetingBy 7 (.if_icmp .ge 26) 3) (zk cX4_meetingBy 10 (.aload_n 0) 1))) (and (and (zk cX4_meetingBy 11 (.getfield 15) 3) (zk cX4_meetingBy 14 (.iload 6) 2)) (and (zk cX4_meetingBy 16 (.aload_n 0) 1) (zk cX4_meetingBy 17 (.getfield 18) 3)))) (and (and (and (zk cX4_meetingBy 20 (.iload 6) 2) (zk cX4_meetingBy 22 (.iload_n 1) 1)) (and (zk cX4_meetingBy 23 (.invokevirtual 32) 3) (zk cX4_meetingBy 26 (.lastore) 1))) (and (and (zk cX4_meetingBy 27 (.iinc 6 1) 3) (zk cX4_meetingBy 30 (.goto (-27)) 3)) (and (zk cX4_meetingBy 127 (.iinc 7 1) 3) (zk cX4_meetingBy 130 (.goto (-43)) 3))))) (and (and (and (and (zk cX4_meetingBy 87 (.iload 7) 2) (zk cX4_meetingBy 89 (.iload 5) 2)) (and (zk cX4_meetingBy 91 (.if_icmp .ge 42) 3) (zk cX4_meetingBy 133 (.iload 5) 2))) (and (and (zk cX4_meetingBy 135 (.ireturn) 1) (zk cX4_meetingBy 94 (.aload_n 0) 1)) (and (zk cX4_meetingBy 95 (.getfield 18) 3) (zk cX4_meetingBy 98 (.getfield 22) 3)))) (and (and (and (zk cX4_meetingBy 101 (.iload 7) 2) (zk cX4_meetingBy 103 (.baload) 1)) (and (zk cX4_meetingBy 104 (.ifCond .eq 23) 3) (zk cX4_meetingBy 107 (.aload_n 0) 1))) (and (and (zk cX4_meetingBy 108 (.iload 7) 2) (zk cX4_meetingBy 110 (.iload 6) 2)) (and (zk cX4_meetingBy 112 (.invokevirtual 76) 3) (zk cX4_meetingBy 115 (.istore 6) 2)))))) = true := by decide +kernel
theorem dX4_meetingBy_3 : decode cX4_meetingBy 3 = .ok (.iload 6, 2) := zk_of (zk_l (zk_l (zk_l (zk_l (zk_l zdX4_meetingBy_3)))))
theorem dX4_meetingBy_5 : decode cX4_meetingBy 5 = .ok (.bipush 8, 2) := zk_of (zk_r (zk_l (zk_l (zk_l (zk_l zdX4_meetingBy_3)))))
theorem dX4_meetingBy_7 : decode cX4_meetingBy 7 = .ok (.if_icmp .ge 26, 3) := zk_of (zk_l (zk_r (zk_l (zk_l (zk_l zdX4_meetingBy_3)))))
theorem dX4_meetingBy_10 : decode cX4_meetingBy 10 = .ok (.aload_n 0, 1) := zk_of (zk_r (zk_r (zk_l (zk_l (zk_l zdX4_meetingBy_3)))))
theorem dX4_meetingBy_11 : decode cX4_meetingBy 11 = .ok (.getfield 15, 3) := zk_of (zk_l (zk_l (zk_r (zk_l (zk_l zdX4_meetingBy_3)))))
theorem dX4_meetingBy_14 : decode cX4_meetingBy 14 = .ok (.iload 6, 2) := zk_of (zk_r (zk_l (zk_r (zk_l (zk_l zdX4_meetingBy_3)))))
theorem dX4_meetingBy_16 : decode cX4_meetingBy 16 = .ok (.aload_n 0, 1) := zk_of (zk_l (zk_r (zk_r (zk_l (zk_l zdX4_meetingBy_3)))))
theorem dX4_meetingBy_17 : decode cX4_meetingBy 17 = .ok (.getfield 18, 3) := zk_of (zk_r (zk_r (zk_r (zk_l (zk_l zdX4_meetingBy_3)))))
theorem dX4_meetingBy_20 : decode cX4_meetingBy 20 = .ok (.iload 6, 2) := zk_of (zk_l (zk_l (zk_l (zk_r (zk_l zdX4_meetingBy_3)))))
theorem dX4_meetingBy_22 : decode cX4_meetingBy 22 = .ok (.iload_n 1, 1) := zk_of (zk_r (zk_l (zk_l (zk_r (zk_l zdX4_meetingBy_3)))))
theorem dX4_meetingBy_23 : decode cX4_meetingBy 23 = .ok (.invokevirtual 32, 3) := zk_of (zk_l (zk_r (zk_l (zk_r (zk_l zdX4_meetingBy_3)))))
theorem dX4_meetingBy_26 : decode cX4_meetingBy 26 = .ok (.lastore, 1) := zk_of (zk_r (zk_r (zk_l (zk_r (zk_l zdX4_meetingBy_3)))))
theorem dX4_meetingBy_27 : decode cX4_meetingBy 27 = .ok (.iinc 6 1, 3) := zk_of (zk_l (zk_l (zk_r (zk_r (zk_l zdX4_meetingBy_3)))))
theorem dX4_meetingBy_30 : decode cX4_meetingBy 30 = .ok (.goto (-27), 3) := zk_of (zk_r (zk_l (zk_r (zk_r (zk_l zdX4_meetingBy_3)))))
theorem dX4_meetingBy_127 : decode cX4_meetingBy 127 = .ok (.iinc 7 1, 3) := zk_of (zk_l (zk_r (zk_r (zk_r (zk_l zdX4_meetingBy_3)))))
theorem dX4_meetingBy_130 : decode cX4_meetingBy 130 = .ok (.goto (-43), 3) := zk_of (zk_r (zk_r (zk_r (zk_r (zk_l zdX4_meetingBy_3)))))
theorem dX4_meetingBy_87 : decode cX4_meetingBy 87 = .ok (.iload 7, 2) := zk_of (zk_l (zk_l (zk_l (zk_l (zk_r zdX4_meetingBy_3)))))
theorem dX4_meetingBy_89 : decode cX4_meetingBy 89 = .ok (.iload 5, 2) := zk_of (zk_r (zk_l (zk_l (zk_l (zk_r zdX4_meetingBy_3)))))
theorem dX4_meetingBy_91 : decode cX4_meetingBy 91 = .ok (.if_icmp .ge 42, 3) := zk_of (zk_l (zk_r (zk_l (zk_l (zk_r zdX4_meetingBy_3)))))
theorem dX4_meetingBy_133 : decode cX4_meetingBy 133 = .ok (.iload 5, 2) := zk_of (zk_r (zk_r (zk_l (zk_l (zk_r zdX4_meetingBy_3)))))
theorem dX4_meetingBy_135 : decode cX4_meetingBy 135 = .ok (.ireturn, 1) := zk_of (zk_l (zk_l (zk_r (zk_l (zk_r zdX4_meetingBy_3)))))
theorem dX4_meetingBy_94 : decode cX4_meetingBy 94 = .ok (.aload_n 0, 1) := zk_of (zk_r (zk_l (zk_r (zk_l (zk_r zdX4_meetingBy_3)))))
theorem dX4_meetingBy_95 : decode cX4_meetingBy 95 = .ok (.getfield 18, 3) := zk_of (zk_l (zk_r (zk_r (zk_l (zk_r zdX4_meetingBy_3)))))
theorem dX4_meetingBy_98 : decode cX4_meetingBy 98 = .ok (.getfield 22, 3) := zk_of (zk_r (zk_r (zk_r (zk_l (zk_r zdX4_meetingBy_3)))))
theorem dX4_meetingBy_101 : decode cX4_meetingBy 101 = .ok (.iload 7, 2) := zk_of (zk_l (zk_l (zk_l (zk_r (zk_r zdX4_meetingBy_3)))))
theorem dX4_meetingBy_103 : decode cX4_meetingBy 103 = .ok (.baload, 1) := zk_of (zk_r (zk_l (zk_l (zk_r (zk_r zdX4_meetingBy_3)))))
theorem dX4_meetingBy_104 : decode cX4_meetingBy 104 = .ok (.ifCond .eq 23, 3) := zk_of (zk_l (zk_r (zk_l (zk_r (zk_r zdX4_meetingBy_3)))))
theorem dX4_meetingBy_107 : decode cX4_meetingBy 107 = .ok (.aload_n 0, 1) := zk_of (zk_r (zk_r (zk_l (zk_r (zk_r zdX4_meetingBy_3)))))
theorem dX4_meetingBy_108 : decode cX4_meetingBy 108 = .ok (.iload 7, 2) := zk_of (zk_l (zk_l (zk_r (zk_r (zk_r zdX4_meetingBy_3)))))
theorem dX4_meetingBy_110 : decode cX4_meetingBy 110 = .ok (.iload 6, 2) := zk_of (zk_r (zk_l (zk_r (zk_r (zk_r zdX4_meetingBy_3)))))
theorem dX4_meetingBy_112 : decode cX4_meetingBy 112 = .ok (.invokevirtual 76, 3) := zk_of (zk_l (zk_r (zk_r (zk_r (zk_r zdX4_meetingBy_3)))))
theorem dX4_meetingBy_115 : decode cX4_meetingBy 115 = .ok (.istore 6, 2) := zk_of (zk_r (zk_r (zk_r (zk_r (zk_r zdX4_meetingBy_3)))))
set_option maxRecDepth 20000 in
theorem ggX4_meetingBy_X2_knownBy : GoodIn wsX4_meetingBy wsX2_knownBy := ggi (fun w h => List.mem_cons_of_mem _ (List.mem_append_left _ (List.mem_append_left _ (List.mem_append_right _ (List.mem_append_left _ h))))) gs_X2_knownBy
set_option maxRecDepth 20000 in
theorem gX4_meetingBy_X2_knownBy : GoodIn wsX4_meetingBy (wsV RX4 32 RX2 yX2_knownBy wsX2_knownBy) := goodIn_app (goodIn_of _ (by decide +kernel)) ggX4_meetingBy_X2_knownBy
set_option maxRecDepth 20000 in
theorem ggX4_meetingBy_X4_passDay : GoodIn wsX4_meetingBy wsX4_passDay := ggi (fun w h => List.mem_cons_of_mem _ (List.mem_append_left _ (List.mem_append_left _ (List.mem_append_right _ (List.mem_append_right _ (List.mem_append_left _ h)))))) gs_X4_passDay
set_option maxRecDepth 20000 in
theorem gX4_meetingBy_X4_passDay : GoodIn wsX4_meetingBy (wsV RX4 76 RX4 yX4_passDay wsX4_passDay) := goodIn_app (goodIn_of _ (by decide +kernel)) ggX4_meetingBy_X4_passDay
theorem zdX4_meetingBy_117 : (and (and (and (and (and (zk cX4_meetingBy 117 (.aload_n 0) 1) (zk cX4_meetingBy 118 (.invokevirtual 80) 3)) (and (zk cX4_meetingBy 121 (.ifCond .eq 6) 3) (zk cX4_meetingBy 124 (.iload 7) 2))) (and (and (zk cX4_meetingBy 126 (.ireturn) 1) (zk cX4_meetingBy 33 (.aload_n 0) 1)) (and (zk cX4_meetingBy 34 (.getfield 15) 3) (zk cX4_meetingBy 37 (.iload_n 2) 1)))) (and (and (and (zk cX4_meetingBy 38 (.dup2) 1) (zk cX4_meetingBy 39 (.laload) 1)) (and (zk cX4_meetingBy 40 (.lload_n 3) 1) (zk cX4_meetingBy 41 (.lor) 1))) (and (and (zk cX4_meetingBy 42 (.lastore) 1) (zk cX4_meetingBy 43 (.aload_n 0) 1)) (and (zk cX4_meetingBy 44 (.getfield 18) 3) (zk cX4_meetingBy 47 (.aload_n 0) 1))))) (and (and (and (and (zk cX4_meetingBy 48 (.getfield 15) 3) (zk cX4_meetingBy 51 (.iload_n 2) 1)) (and (zk cX4_meetingBy 52 (.laload) 1) (zk cX4_meetingBy 53 (.invokevirtual 36) 3))) (and (and (zk cX4_meetingBy 56 (.ifCond .eq 5) 3) (zk cX4_meetingBy 61 (.iload_n 1) 1)) (and (zk cX4_meetingBy 62 (.aload_n 0) 1) (zk cX4_meetingBy 63 (.getfield 18) 3)))) (and (and (and (zk cX4_meetingBy 66 (.getfield 65) 3) (zk cX4_meetingBy 69 (.aload_n 0) 1)) (and (zk cX4_meetingBy 70 (.getfield 18) 3) (zk cX4_meetingBy 73 (.getfield 69) 3))) (and (and (zk cX4_meetingBy 76 (.iconst 0) 1) (zk cX4_meetingBy 77 (.invokestatic 72) 3)) (and (zk cX4_meetingBy 80 (.istore 6) 2) (zk cX4_meetingBy 82 (.iload_n 1) 1)))))) = true := by decide +kernel
theorem dX4_meetingBy_117 : decode cX4_meetingBy 117 = .ok (.aload_n 0, 1) := zk_of (zk_l (zk_l (zk_l (zk_l (zk_l zdX4_meetingBy_117)))))
theorem dX4_meetingBy_118 : decode cX4_meetingBy 118 = .ok (.invokevirtual 80, 3) := zk_of (zk_r (zk_l (zk_l (zk_l (zk_l zdX4_meetingBy_117)))))
theorem dX4_meetingBy_121 : decode cX4_meetingBy 121 = .ok (.ifCond .eq 6, 3) := zk_of (zk_l (zk_r (zk_l (zk_l (zk_l zdX4_meetingBy_117)))))
theorem dX4_meetingBy_124 : decode cX4_meetingBy 124 = .ok (.iload 7, 2) := zk_of (zk_r (zk_r (zk_l (zk_l (zk_l zdX4_meetingBy_117)))))
theorem dX4_meetingBy_126 : decode cX4_meetingBy 126 = .ok (.ireturn, 1) := zk_of (zk_l (zk_l (zk_r (zk_l (zk_l zdX4_meetingBy_117)))))
theorem dX4_meetingBy_33 : decode cX4_meetingBy 33 = .ok (.aload_n 0, 1) := zk_of (zk_r (zk_l (zk_r (zk_l (zk_l zdX4_meetingBy_117)))))
theorem dX4_meetingBy_34 : decode cX4_meetingBy 34 = .ok (.getfield 15, 3) := zk_of (zk_l (zk_r (zk_r (zk_l (zk_l zdX4_meetingBy_117)))))
theorem dX4_meetingBy_37 : decode cX4_meetingBy 37 = .ok (.iload_n 2, 1) := zk_of (zk_r (zk_r (zk_r (zk_l (zk_l zdX4_meetingBy_117)))))
theorem dX4_meetingBy_38 : decode cX4_meetingBy 38 = .ok (.dup2, 1) := zk_of (zk_l (zk_l (zk_l (zk_r (zk_l zdX4_meetingBy_117)))))
theorem dX4_meetingBy_39 : decode cX4_meetingBy 39 = .ok (.laload, 1) := zk_of (zk_r (zk_l (zk_l (zk_r (zk_l zdX4_meetingBy_117)))))
theorem dX4_meetingBy_40 : decode cX4_meetingBy 40 = .ok (.lload_n 3, 1) := zk_of (zk_l (zk_r (zk_l (zk_r (zk_l zdX4_meetingBy_117)))))
theorem dX4_meetingBy_41 : decode cX4_meetingBy 41 = .ok (.lor, 1) := zk_of (zk_r (zk_r (zk_l (zk_r (zk_l zdX4_meetingBy_117)))))
theorem dX4_meetingBy_42 : decode cX4_meetingBy 42 = .ok (.lastore, 1) := zk_of (zk_l (zk_l (zk_r (zk_r (zk_l zdX4_meetingBy_117)))))
theorem dX4_meetingBy_43 : decode cX4_meetingBy 43 = .ok (.aload_n 0, 1) := zk_of (zk_r (zk_l (zk_r (zk_r (zk_l zdX4_meetingBy_117)))))
theorem dX4_meetingBy_44 : decode cX4_meetingBy 44 = .ok (.getfield 18, 3) := zk_of (zk_l (zk_r (zk_r (zk_r (zk_l zdX4_meetingBy_117)))))
theorem dX4_meetingBy_47 : decode cX4_meetingBy 47 = .ok (.aload_n 0, 1) := zk_of (zk_r (zk_r (zk_r (zk_r (zk_l zdX4_meetingBy_117)))))
theorem dX4_meetingBy_48 : decode cX4_meetingBy 48 = .ok (.getfield 15, 3) := zk_of (zk_l (zk_l (zk_l (zk_l (zk_r zdX4_meetingBy_117)))))
theorem dX4_meetingBy_51 : decode cX4_meetingBy 51 = .ok (.iload_n 2, 1) := zk_of (zk_r (zk_l (zk_l (zk_l (zk_r zdX4_meetingBy_117)))))
theorem dX4_meetingBy_52 : decode cX4_meetingBy 52 = .ok (.laload, 1) := zk_of (zk_l (zk_r (zk_l (zk_l (zk_r zdX4_meetingBy_117)))))
theorem dX4_meetingBy_53 : decode cX4_meetingBy 53 = .ok (.invokevirtual 36, 3) := zk_of (zk_r (zk_r (zk_l (zk_l (zk_r zdX4_meetingBy_117)))))
theorem dX4_meetingBy_56 : decode cX4_meetingBy 56 = .ok (.ifCond .eq 5, 3) := zk_of (zk_l (zk_l (zk_r (zk_l (zk_r zdX4_meetingBy_117)))))
theorem dX4_meetingBy_61 : decode cX4_meetingBy 61 = .ok (.iload_n 1, 1) := zk_of (zk_r (zk_l (zk_r (zk_l (zk_r zdX4_meetingBy_117)))))
theorem dX4_meetingBy_62 : decode cX4_meetingBy 62 = .ok (.aload_n 0, 1) := zk_of (zk_l (zk_r (zk_r (zk_l (zk_r zdX4_meetingBy_117)))))
theorem dX4_meetingBy_63 : decode cX4_meetingBy 63 = .ok (.getfield 18, 3) := zk_of (zk_r (zk_r (zk_r (zk_l (zk_r zdX4_meetingBy_117)))))
theorem dX4_meetingBy_66 : decode cX4_meetingBy 66 = .ok (.getfield 65, 3) := zk_of (zk_l (zk_l (zk_l (zk_r (zk_r zdX4_meetingBy_117)))))
theorem dX4_meetingBy_69 : decode cX4_meetingBy 69 = .ok (.aload_n 0, 1) := zk_of (zk_r (zk_l (zk_l (zk_r (zk_r zdX4_meetingBy_117)))))
theorem dX4_meetingBy_70 : decode cX4_meetingBy 70 = .ok (.getfield 18, 3) := zk_of (zk_l (zk_r (zk_l (zk_r (zk_r zdX4_meetingBy_117)))))
theorem dX4_meetingBy_73 : decode cX4_meetingBy 73 = .ok (.getfield 69, 3) := zk_of (zk_r (zk_r (zk_l (zk_r (zk_r zdX4_meetingBy_117)))))
theorem dX4_meetingBy_76 : decode cX4_meetingBy 76 = .ok (.iconst 0, 1) := zk_of (zk_l (zk_l (zk_r (zk_r (zk_r zdX4_meetingBy_117)))))
theorem dX4_meetingBy_77 : decode cX4_meetingBy 77 = .ok (.invokestatic 72, 3) := zk_of (zk_r (zk_l (zk_r (zk_r (zk_r zdX4_meetingBy_117)))))
theorem dX4_meetingBy_80 : decode cX4_meetingBy 80 = .ok (.istore 6, 2) := zk_of (zk_l (zk_r (zk_r (zk_r (zk_r zdX4_meetingBy_117)))))
theorem dX4_meetingBy_82 : decode cX4_meetingBy 82 = .ok (.iload_n 1, 1) := zk_of (zk_r (zk_r (zk_r (zk_r (zk_r zdX4_meetingBy_117)))))
set_option maxRecDepth 20000 in
theorem ggX4_meetingBy_X4_anyMet : GoodIn wsX4_meetingBy wsX4_anyMet := ggi (fun w h => List.mem_cons_of_mem _ (List.mem_append_left _ (List.mem_append_left _ (List.mem_append_right _ (List.mem_append_right _ (List.mem_append_right _ (List.mem_append_left _ h))))))) gs_X4_anyMet
set_option maxRecDepth 20000 in
theorem gX4_meetingBy_X4_anyMet : GoodIn wsX4_meetingBy (wsV RX4 80 RX4 yX4_anyMet wsX4_anyMet) := goodIn_app (goodIn_of _ (by decide +kernel)) ggX4_meetingBy_X4_anyMet
set_option maxRecDepth 20000 in
theorem ggX4_meetingBy_X2_areMet : GoodIn wsX4_meetingBy wsX2_areMet := ggi (fun w h => List.mem_cons_of_mem _ (List.mem_append_left _ (List.mem_append_left _ (List.mem_append_right _ (List.mem_append_right _ (List.mem_append_right _ (List.mem_append_right _ (List.mem_append_left _ h)))))))) gs_X2_areMet
set_option maxRecDepth 20000 in
theorem gX4_meetingBy_X2_areMet : GoodIn wsX4_meetingBy (wsV RX4 36 RX2 yX2_areMet wsX2_areMet) := goodIn_app (goodIn_of _ (by decide +kernel)) ggX4_meetingBy_X2_areMet
set_option maxRecDepth 20000 in
theorem ggX4_meetingBy_X11_rowsUpTo : GoodIn wsX4_meetingBy wsX11_rowsUpTo := ggi (fun w h => List.mem_cons_of_mem _ (List.mem_append_left _ (List.mem_append_left _ (List.mem_append_right _ (List.mem_append_right _ (List.mem_append_right _ (List.mem_append_right _ (List.mem_append_right _ h)))))))) gs_X11_rowsUpTo
set_option maxRecDepth 20000 in
theorem gX4_meetingBy_X11_rowsUpTo_n72 : GoodIn wsX4_meetingBy (wsX11_rowsUpTo) := ggX4_meetingBy_X11_rowsUpTo
theorem zdX4_meetingBy_83 : (and (and (and (zk cX4_meetingBy 83 (.iconst 1) 1) (zk cX4_meetingBy 84 (.iadd) 1)) (and (zk cX4_meetingBy 85 (.istore 7) 2) (zk cX4_meetingBy 59 (.iload_n 1) 1))) (and (and (zk cX4_meetingBy 60 (.ireturn) 1) (zk cX4_meetingBy 0 (.iconst 0) 1)) (zk cX4_meetingBy 1 (.istore 6) 2))) = true := by decide +kernel
theorem dX4_meetingBy_83 : decode cX4_meetingBy 83 = .ok (.iconst 1, 1) := zk_of (zk_l (zk_l (zk_l zdX4_meetingBy_83)))
theorem dX4_meetingBy_84 : decode cX4_meetingBy 84 = .ok (.iadd, 1) := zk_of (zk_r (zk_l (zk_l zdX4_meetingBy_83)))
theorem dX4_meetingBy_85 : decode cX4_meetingBy 85 = .ok (.istore 7, 2) := zk_of (zk_l (zk_r (zk_l zdX4_meetingBy_83)))
theorem dX4_meetingBy_59 : decode cX4_meetingBy 59 = .ok (.iload_n 1, 1) := zk_of (zk_r (zk_r (zk_l zdX4_meetingBy_83)))
theorem dX4_meetingBy_60 : decode cX4_meetingBy 60 = .ok (.ireturn, 1) := zk_of (zk_l (zk_l (zk_r zdX4_meetingBy_83)))
theorem dX4_meetingBy_0 : decode cX4_meetingBy 0 = .ok (.iconst 0, 1) := zk_of (zk_r (zk_l (zk_r zdX4_meetingBy_83)))
theorem dX4_meetingBy_1 : decode cX4_meetingBy 1 = .ok (.istore 6, 2) := zk_of (zk_r (zk_r zdX4_meetingBy_83))
/-- HissHorn$Meeting.meetingBy(IIJI)I of cell 12 -/
def rmX4_meetingBy_12 : Room := { frames := 3, cells := 0, slots := 0, locals := 64 }
theorem hX4_meetingBy_12_X4 : ∀ w ∈ u_ws RX4 TX4 7, w ∈ wsX4_meetingBy := fun w h => (List.mem_cons_of_mem _ (List.mem_append_left _ (List.mem_append_right _ h)))
theorem mX4_meetingBy_12_1 : Cond.fieldLink RX4 15 "HissHorn$Meeting" "behind" "[J" ∈ wsX4_meetingBy := (List.mem_cons_of_mem _ (List.mem_append_left _ (List.mem_append_left _ (List.mem_append_left _ (List.mem_of_getElem? (i := 14) rfl)))))
theorem mX4_meetingBy_12_2 : Cond.fieldLink RX4 18 "HissHorn$Meeting" "houses" "LHissHorn$Houses;" ∈ wsX4_meetingBy := (List.mem_cons_of_mem _ (List.mem_append_left _ (List.mem_append_left _ (List.mem_append_left _ (List.mem_of_getElem? (i := 15) rfl)))))
def LX4_meetingBy_12_3 (k33 : Int32 → Int32 → Int64 → Int32 → SX → Option (Int32 × SX)) : Nat → Int32 → Int32 → Int64 → Int32 → Int32 → SX → Option (Int32 × SX)
  | 0, _, _, _, _, _, _ => none
  | n + 1, z1, z2, z3, z5, z6, u => (if 8 ≤ z6 then (k33 z1 z2 z3 z5 u) else ((fX2_knownBy_11 z6 z1 u).bind fun q => match q with | (r1, u2) => (gd (inb z6 8) (lt (sB u2 72 (vp_updL (u2.2.2.2.1 72) z6.toNatClampNeg r1)) fun u5 => ((LX4_meetingBy_12_3 k33 n) z1 z2 z3 z5 (z6 + 1) u5)))))
theorem hX4_meetingBy_12_X2 : ∀ w ∈ u_ws RX2 TX2 18, w ∈ wsX4_meetingBy := fun w h => (List.mem_cons_of_mem _ (List.mem_append_right _ h))
theorem mX4_meetingBy_12_4 : Cond.fieldLink RX4 65 "HissHorn$Houses" "letterDay" "[I" ∈ wsX4_meetingBy := (List.mem_cons_of_mem _ (List.mem_append_left _ (List.mem_append_left _ (List.mem_append_left _ (List.mem_of_getElem? (i := 16) rfl)))))
theorem mX4_meetingBy_12_5 : Cond.fieldLink RX4 69 "HissHorn$Houses" "letters" "I" ∈ wsX4_meetingBy := (List.mem_cons_of_mem _ (List.mem_append_left _ (List.mem_append_left _ (List.mem_append_left _ (List.mem_of_getElem? (i := 17) rfl)))))
theorem mX4_meetingBy_12_6 : Cond.initialized RX11 ∈ wsX4_meetingBy := (List.mem_cons_of_mem _ (List.mem_append_left _ (List.mem_append_left _ (List.mem_append_left _ (List.mem_of_getElem? (i := 18) rfl)))))
theorem mX4_meetingBy_12_7 : Cond.static yX11_rowsUpTo ∈ wsX4_meetingBy := (List.mem_cons_of_mem _ (List.mem_append_left _ (List.mem_append_left _ (List.mem_append_left _ (List.mem_of_getElem? (i := 19) rfl)))))
theorem mX4_meetingBy_12_8 : Cond.fieldLink RX4 22 "HissHorn$Houses" "busy" "[Z" ∈ wsX4_meetingBy := (List.mem_cons_of_mem _ (List.mem_append_left _ (List.mem_append_left _ (List.mem_append_left _ (List.mem_of_getElem? (i := 20) rfl)))))
def GX4_meetingBy_12_127 (k87 : Int32 → Int32 → Int32 → SX → Option (Int32 × SX)) (z5 : Int32) (z6 : Int32) (z7 : Int32) (u : SX) : Option (Int32 × SX) := (k87 z5 z6 (z7 + 1) u)
def LX4_meetingBy_12_87  : Nat → Int32 → Int32 → Int32 → SX → Option (Int32 × SX)
  | 0, _, _, _, _ => none
  | n + 1, z5, z6, z7, u => (if z5 ≤ z7 then (some (z5, u)) else (gd (inb z7 121) (if (u.2.1 59 z7.toNatClampNeg) = 0 then (GX4_meetingBy_12_127 (LX4_meetingBy_12_87 n) z5 z6 z7 u) else ((fX4_passDay_12 z7 z6 u).bind fun q => match q with | (r21, u22) => ((fX4_anyMet_12  u22).bind fun q => match q with | (r24, u25) => (if r24 = 0 then (GX4_meetingBy_12_127 (LX4_meetingBy_12_87 n) z5 r21 z7 u25) else (some (z7, u25))))))))
def GX4_meetingBy_12_33 (z1 : Int32) (z2 : Int32) (z3 : Int64) (z5 : Int32) (u : SX) : Option (Int32 × SX) := (gd (inb z2 8) (gd (inb z2 8) (lt (sB u 72 (vp_updL (u.2.2.2.1 72) z2.toNatClampNeg ((u.2.2.2.1 72 z2.toNatClampNeg) ||| z3))) fun u9 => (gd (inb z2 8) ((fX2_areMet_11 (u9.2.2.2.1 72 z2.toNatClampNeg) u9).bind fun q => match q with | (r12, u13) => (if r12 = 0 then ((fX11_rowsUpTo_a62 z1 (u13.1 38) 0 u13).bind fun q => match q with | (r15, u16) => (lt (z1 + 1) fun v18 => (LX4_meetingBy_12_87  5000 z5 r15 v18 u16))) else (some (z1, u13))))))))
def fX4_meetingBy_12 (x1 : Int32) (x2 : Int32) (x3 : Int64) (x5 : Int32) (u : SX) : Option (Int32 × SX) := (LX4_meetingBy_12_3 GX4_meetingBy_12_33 5000 x1 x2 x3 x5 0 u)
set_option maxHeartbeats 4000000 in
set_option maxRecDepth 100000 in
theorem wLX4_meetingBy_12_3 {p : Program} {l : Launch} {e : Env} {s : State} {m : MethodId} {args : Array Value} {below : List Frame} {meth : Method} {c : Code} {D : va_G} {cy : Nat → ClassId} {ad st : Nat → Nat} (C : Cx RX4 cX4_meetingBy 8 (some .int) wsX4_meetingBy p s m args meth c) (hK : Ky D [(cy 0, .int), (cy 1, .long), (cy 2, .boolean), (cy 3, .byte), (cy 4, .object "HissHorn$Text")] st s) (hJ : JX ad st) {r : Int32} {u' : SX} {k33 : Int32 → Int32 → Int64 → Int32 → SX → Option (Int32 × SX)} (hk33 : ∀ (z1 : Int32) (z2 : Int32) (z3 : Int64) (z5 : Int32) (u : SX) (H : Heap) (locs : List Loc) (ls : Array Slot), k33 z1 z2 z3 z5 u = some (r, u') → va_P D vwCl (VX cy ad st u) H → va_S (Ax (AX ad) s.heap.size) s.heap H locs → lv_has ls 8 [(0, .ref (ad 12)), (1, .int z1), (2, .int z2), (3, .long z3), (5, .int z5)] → W p l e rmX4_meetingBy_12 s m args below meth c H locs 0 0 (MQ below (Qi D (VX cy ad st) (AX ad) s.heap.size r u') args s 0 0 (Ax (AX ad) s.heap.size)) (F0 m 33 ls [])) : ∀ (n : Nat) (z1 : Int32) (z2 : Int32) (z3 : Int64) (z5 : Int32) (z6 : Int32) (u : SX) (H : Heap) (locs : List Loc) (ls : Array Slot), LX4_meetingBy_12_3 k33 n z1 z2 z3 z5 z6 u = some (r, u') → va_P D vwCl (VX cy ad st u) H → va_S (Ax (AX ad) s.heap.size) s.heap H locs → lv_has ls 8 [(0, .ref (ad 12)), (1, .int z1), (2, .int z2), (3, .long z3), (5, .int z5), (6, .int z6)] → W p l e rmX4_meetingBy_12 s m args below meth c H locs 0 0 (MQ below (Qi D (VX cy ad st) (AX ad) s.heap.size r u') args s 0 0 (Ax (AX ad) s.heap.size)) (F0 m 3 ls []) := by
  intro n
  induction n with
  | zero =>
    intro z1 z2 z3 z5 z6 u H locs ls h
    exact absurd h (by intro q; cases q)
  | succ n ih =>
    intro z1 z2 z3 z5 z6 u H locs ls h hP hS hl
    rw [LX4_meetingBy_12_3] at h
    refine lv_iload C.1 C.2.1 dX4_meetingBy_3 (lv_at hl 5 rfl) ?_
    refine lv_bipush (v := 8) C.1 C.2.1 dX4_meetingBy_5 (by decide) ?_
    refine lv_icmp_ge (tgt := 33) C.1 C.2.1 dX4_meetingBy_7 (by decide) (fun c7 => ?_) (fun c7 => ?_)
    · rw [if_pos c7] at h
      exact hk33 _ _ _ _ _ _ _ _ h hP hS (lv_sub hl [0, 1, 2, 3, 4] rfl)
    · rw [if_neg c7] at h
      refine lv_aload_n C.1 C.2.1 dX4_meetingBy_10 rfl (lv_at hl 0 rfl) ?_
      refine gX_12_behind C hX4_meetingBy_12_X4 hK hP mX4_meetingBy_12_1 dX4_meetingBy_11 ?_
      refine lv_iload C.1 C.2.1 dX4_meetingBy_14 (lv_at hl 5 rfl) ?_
      refine lv_aload_n C.1 C.2.1 dX4_meetingBy_16 rfl (lv_at hl 0 rfl) ?_
      refine gX_12_houses C hX4_meetingBy_12_X4 hK hP mX4_meetingBy_12_2 dX4_meetingBy_17 ?_
      refine lv_iload C.1 C.2.1 dX4_meetingBy_20 (lv_at hl 5 rfl) ?_
      refine lv_iload_n C.1 C.2.1 dX4_meetingBy_22 rfl (lv_at hl 1 rfl) ?_
      obtain ⟨⟨r1, u2⟩, hc3, h⟩ := bd_some h
      try dsimp only at h
      refine cg_l (As := [.int z6, .int z1]) (rest := [.int z6, .ref (ad 72)]) (AX_ge hJ) C hK hP hS (metX2_knownBy_11 l D cy ad st hJ _ z6 z1 hc3) (cwV 2 C.2.2.2.2.2.1 gX4_meetingBy_X2_knownBy rfl rfl rfl (by decide +kernel) ⟨(Nat.le_of_ble_eq_true rfl), (Nat.le_of_ble_eq_true rfl)⟩) 11 2 rfl rfl rfl hl.1 rfl (Nat.le_of_ble_eq_true rfl) dX4_meetingBy_23 ⟨Nat.zero_le _, Nat.zero_le _⟩ (fun H locs hP hS => ?_)
      obtain ⟨hg4, h⟩ := gd_some h
      refine tX_72 C hK hP hJ hS hg4 dX4_meetingBy_26 (fun H locs hP hS => ?_)
      obtain ⟨u5, hu6, h⟩ := lt_some h
      rw [← hu6] at hP
      refine lv_iinc (v := z6 + 1) (lv' := [(6, .int (z6 + 1)), (0, .ref (ad 12)), (1, .int z1), (2, .int z2), (3, .long z3), (5, .int z5)]) C.1 C.2.1 dX4_meetingBy_27 hl (k := 5) rfl rfl (by decide) rfl (fun ls hl => ?_)
      replace hl := lv_sub (l' := [(0, .ref (ad 12)), (1, .int z1), (2, .int z2), (3, .long z3), (5, .int z5), (6, .int (z6 + 1))]) hl [1, 2, 3, 4, 5, 0] rfl
      refine lv_goto (tgt := 3) C.1 C.2.1 dX4_meetingBy_30 (by decide) ?_
      exact ih _ _ _ _ _ _ _ _ _ h hP hS hl
set_option maxHeartbeats 4000000 in
set_option maxRecDepth 100000 in
theorem wGX4_meetingBy_12_127 {p : Program} {l : Launch} {e : Env} {s : State} {m : MethodId} {args : Array Value} {below : List Frame} {meth : Method} {c : Code} {D : va_G} {cy : Nat → ClassId} {ad st : Nat → Nat} (C : Cx RX4 cX4_meetingBy 8 (some .int) wsX4_meetingBy p s m args meth c) (hK : Ky D [(cy 0, .int), (cy 1, .long), (cy 2, .boolean), (cy 3, .byte), (cy 4, .object "HissHorn$Text")] st s) (hJ : JX ad st) {r : Int32} {u' : SX} {k87 : Int32 → Int32 → Int32 → SX → Option (Int32 × SX)} (hk87 : ∀ (z5 : Int32) (z6 : Int32) (z7 : Int32) (u : SX) (H : Heap) (locs : List Loc) (ls : Array Slot), k87 z5 z6 z7 u = some (r, u') → va_P D vwCl (VX cy ad st u) H → va_S (Ax (AX ad) s.heap.size) s.heap H locs → lv_has ls 8 [(0, .ref (ad 12)), (5, .int z5), (6, .int z6), (7, .int z7)] → W p l e rmX4_meetingBy_12 s m args below meth c H locs 0 0 (MQ below (Qi D (VX cy ad st) (AX ad) s.heap.size r u') args s 0 0 (Ax (AX ad) s.heap.size)) (F0 m 87 ls [])) (z5 : Int32) (z6 : Int32) (z7 : Int32) (u : SX) (H : Heap) (locs : List Loc) (ls : Array Slot) (h : GX4_meetingBy_12_127 k87 z5 z6 z7 u = some (r, u')) (hP : va_P D vwCl (VX cy ad st u) H) (hS : va_S (Ax (AX ad) s.heap.size) s.heap H locs) (hl : lv_has ls 8 [(0, .ref (ad 12)), (5, .int z5), (6, .int z6), (7, .int z7)]) : W p l e rmX4_meetingBy_12 s m args below meth c H locs 0 0 (MQ below (Qi D (VX cy ad st) (AX ad) s.heap.size r u') args s 0 0 (Ax (AX ad) s.heap.size)) (F0 m 127 ls []) := by
  unfold GX4_meetingBy_12_127 at h
  refine lv_iinc (v := z7 + 1) (lv' := [(7, .int (z7 + 1)), (0, .ref (ad 12)), (5, .int z5), (6, .int z6)]) C.1 C.2.1 dX4_meetingBy_127 hl (k := 3) rfl rfl (by decide) rfl (fun ls hl => ?_)
  replace hl := lv_sub (l' := [(0, .ref (ad 12)), (5, .int z5), (6, .int z6), (7, .int (z7 + 1))]) hl [1, 2, 3, 0] rfl
  refine lv_goto (tgt := 87) C.1 C.2.1 dX4_meetingBy_130 (by decide) ?_
  exact hk87 _ _ _ _ _ _ _ h hP hS hl
set_option maxHeartbeats 4000000 in
set_option maxRecDepth 100000 in
theorem wLX4_meetingBy_12_87 {p : Program} {l : Launch} {e : Env} {s : State} {m : MethodId} {args : Array Value} {below : List Frame} {meth : Method} {c : Code} {D : va_G} {cy : Nat → ClassId} {ad st : Nat → Nat} (C : Cx RX4 cX4_meetingBy 8 (some .int) wsX4_meetingBy p s m args meth c) (hK : Ky D [(cy 0, .int), (cy 1, .long), (cy 2, .boolean), (cy 3, .byte), (cy 4, .object "HissHorn$Text")] st s) (hJ : JX ad st) {r : Int32} {u' : SX}   : ∀ (n : Nat) (z5 : Int32) (z6 : Int32) (z7 : Int32) (u : SX) (H : Heap) (locs : List Loc) (ls : Array Slot), LX4_meetingBy_12_87  n z5 z6 z7 u = some (r, u') → va_P D vwCl (VX cy ad st u) H → va_S (Ax (AX ad) s.heap.size) s.heap H locs → lv_has ls 8 [(0, .ref (ad 12)), (5, .int z5), (6, .int z6), (7, .int z7)] → W p l e rmX4_meetingBy_12 s m args below meth c H locs 0 0 (MQ below (Qi D (VX cy ad st) (AX ad) s.heap.size r u') args s 0 0 (Ax (AX ad) s.heap.size)) (F0 m 87 ls []) := by
  intro n
  induction n with
  | zero =>
    intro z5 z6 z7 u H locs ls h
    exact absurd h (by intro q; cases q)
  | succ n ih =>
    intro z5 z6 z7 u H locs ls h hP hS hl
    rw [LX4_meetingBy_12_87] at h
    refine lv_iload C.1 C.2.1 dX4_meetingBy_87 (lv_at hl 3 rfl) ?_
    refine lv_iload C.1 C.2.1 dX4_meetingBy_89 (lv_at hl 1 rfl) ?_
    refine lv_icmp_ge (tgt := 133) C.1 C.2.1 dX4_meetingBy_91 (by decide) (fun c91 => ?_) (fun c91 => ?_)
    · rw [if_pos c91] at h
      refine lv_iload C.1 C.2.1 dX4_meetingBy_133 (lv_at hl 1 rfl) ?_
      cases h
      exact rt_i C hP hS dX4_meetingBy_135
    · rw [if_neg c91] at h
      refine lv_aload_n C.1 C.2.1 dX4_meetingBy_94 rfl (lv_at hl 0 rfl) ?_
      refine gX_12_houses C hX4_meetingBy_12_X4 hK hP mX4_meetingBy_12_2 dX4_meetingBy_95 ?_
      refine gX_11_busy C hX4_meetingBy_12_X2 hK hP mX4_meetingBy_12_8 dX4_meetingBy_98 ?_
      refine lv_iload C.1 C.2.1 dX4_meetingBy_101 (lv_at hl 3 rfl) ?_
      obtain ⟨hg20, h⟩ := gd_some h
      refine lX_59 C hK hP hg20 dX4_meetingBy_103 ?_
      refine lv_if_eq (tgt := 127) C.1 C.2.1 dX4_meetingBy_104 (by decide) (fun c104 => ?_) (fun c104 => ?_)
      · rw [if_pos c104] at h
        exact wGX4_meetingBy_12_127 C hK hJ ih _ _ _ _ _ _ _ h hP hS hl
      · rw [if_neg c104] at h
        refine lv_aload_n C.1 C.2.1 dX4_meetingBy_107 rfl (lv_at hl 0 rfl) ?_
        refine lv_iload C.1 C.2.1 dX4_meetingBy_108 (lv_at hl 3 rfl) ?_
        refine lv_iload C.1 C.2.1 dX4_meetingBy_110 (lv_at hl 2 rfl) ?_
        obtain ⟨⟨r21, u22⟩, hc23, h⟩ := bd_some h
        try dsimp only at h
        refine cg_i (As := [.int z7, .int z6]) (rest := []) (AX_ge hJ) C hK hP hS (metX4_passDay_12 l D cy ad st hJ _ z7 z6 hc23) (cwV 2 C.2.2.2.2.2.1 gX4_meetingBy_X4_passDay rfl rfl rfl (by decide +kernel) ⟨(Nat.le_of_ble_eq_true rfl), (Nat.le_of_ble_eq_true rfl)⟩) 12 4 rfl rfl rfl hl.1 rfl (Nat.le_of_ble_eq_true rfl) dX4_meetingBy_112 ⟨Nat.zero_le _, Nat.zero_le _⟩ (fun H locs hP hS => ?_)
        refine lv_istore (lv' := [(6, .int r21), (0, .ref (ad 12)), (5, .int z5), (7, .int z7)]) C.1 C.2.1 dX4_meetingBy_115 hl (by decide) rfl (fun ls hl => ?_)
        replace hl := lv_sub (l' := [(0, .ref (ad 12)), (5, .int z5), (6, .int r21), (7, .int z7)]) hl [1, 2, 0, 3] rfl
        refine lv_aload_n C.1 C.2.1 dX4_meetingBy_117 rfl (lv_at hl 0 rfl) ?_
        obtain ⟨⟨r24, u25⟩, hc26, h⟩ := bd_some h
        try dsimp only at h
        refine cg_i (As := []) (rest := []) (AX_ge hJ) C hK hP hS (metX4_anyMet_12 l D cy ad st hJ _  hc26) (cwV 0 C.2.2.2.2.2.1 gX4_meetingBy_X4_anyMet rfl rfl rfl (by decide +kernel) ⟨(Nat.le_of_ble_eq_true rfl), (Nat.le_of_ble_eq_true rfl)⟩) 12 4 rfl rfl rfl hl.1 rfl (Nat.le_of_ble_eq_true rfl) dX4_meetingBy_118 ⟨Nat.zero_le _, Nat.zero_le _⟩ (fun H locs hP hS => ?_)
        refine lv_if_eq (tgt := 127) C.1 C.2.1 dX4_meetingBy_121 (by decide) (fun c121 => ?_) (fun c121 => ?_)
        · rw [if_pos c121] at h
          exact wGX4_meetingBy_12_127 C hK hJ ih _ _ _ _ _ _ _ h hP hS hl
        · rw [if_neg c121] at h
          refine lv_iload C.1 C.2.1 dX4_meetingBy_124 (lv_at hl 3 rfl) ?_
          cases h
          exact rt_i C hP hS dX4_meetingBy_126
set_option maxHeartbeats 4000000 in
set_option maxRecDepth 100000 in
theorem wGX4_meetingBy_12_33 {p : Program} {l : Launch} {e : Env} {s : State} {m : MethodId} {args : Array Value} {below : List Frame} {meth : Method} {c : Code} {D : va_G} {cy : Nat → ClassId} {ad st : Nat → Nat} (C : Cx RX4 cX4_meetingBy 8 (some .int) wsX4_meetingBy p s m args meth c) (hK : Ky D [(cy 0, .int), (cy 1, .long), (cy 2, .boolean), (cy 3, .byte), (cy 4, .object "HissHorn$Text")] st s) (hJ : JX ad st) {r : Int32} {u' : SX}   (z1 : Int32) (z2 : Int32) (z3 : Int64) (z5 : Int32) (u : SX) (H : Heap) (locs : List Loc) (ls : Array Slot) (h : GX4_meetingBy_12_33 z1 z2 z3 z5 u = some (r, u')) (hP : va_P D vwCl (VX cy ad st u) H) (hS : va_S (Ax (AX ad) s.heap.size) s.heap H locs) (hl : lv_has ls 8 [(0, .ref (ad 12)), (1, .int z1), (2, .int z2), (3, .long z3), (5, .int z5)]) : W p l e rmX4_meetingBy_12 s m args below meth c H locs 0 0 (MQ below (Qi D (VX cy ad st) (AX ad) s.heap.size r u') args s 0 0 (Ax (AX ad) s.heap.size)) (F0 m 33 ls []) := by
  unfold GX4_meetingBy_12_33 at h
  refine lv_aload_n C.1 C.2.1 dX4_meetingBy_33 rfl (lv_at hl 0 rfl) ?_
  refine gX_12_behind C hX4_meetingBy_12_X4 hK hP mX4_meetingBy_12_1 dX4_meetingBy_34 ?_
  refine lv_iload_n C.1 C.2.1 dX4_meetingBy_37 rfl (lv_at hl 2 rfl) ?_
  refine lv_dup2_11 C.1 C.2.1 dX4_meetingBy_38 rfl rfl ?_
  obtain ⟨hg7, h⟩ := gd_some h
  refine lX_72 C hK hP hg7 dX4_meetingBy_39 ?_
  refine lv_lload_n C.1 C.2.1 dX4_meetingBy_40 rfl (lv_at hl 3 rfl) ?_
  refine lv_lor C.1 C.2.1 dX4_meetingBy_41 ?_
  obtain ⟨hg8, h⟩ := gd_some h
  refine tX_72 C hK hP hJ hS hg8 dX4_meetingBy_42 (fun H locs hP hS => ?_)
  obtain ⟨u9, hu10, h⟩ := lt_some h
  rw [← hu10] at hP
  refine lv_aload_n C.1 C.2.1 dX4_meetingBy_43 rfl (lv_at hl 0 rfl) ?_
  refine gX_12_houses C hX4_meetingBy_12_X4 hK hP mX4_meetingBy_12_2 dX4_meetingBy_44 ?_
  refine lv_aload_n C.1 C.2.1 dX4_meetingBy_47 rfl (lv_at hl 0 rfl) ?_
  refine gX_12_behind C hX4_meetingBy_12_X4 hK hP mX4_meetingBy_12_1 dX4_meetingBy_48 ?_
  refine lv_iload_n C.1 C.2.1 dX4_meetingBy_51 rfl (lv_at hl 2 rfl) ?_
  obtain ⟨hg11, h⟩ := gd_some h
  refine lX_72 C hK hP hg11 dX4_meetingBy_52 ?_
  obtain ⟨⟨r12, u13⟩, hc14, h⟩ := bd_some h
  try dsimp only at h
  refine cg_i (As := [.long (u9.2.2.2.1 72 z2.toNatClampNeg)]) (rest := []) (AX_ge hJ) C hK hP hS (metX2_areMet_11 l D cy ad st hJ _ (u9.2.2.2.1 72 z2.toNatClampNeg) hc14) (cwV 1 C.2.2.2.2.2.1 gX4_meetingBy_X2_areMet rfl rfl rfl (by decide +kernel) ⟨(Nat.le_of_ble_eq_true rfl), (Nat.le_of_ble_eq_true rfl)⟩) 11 2 rfl rfl rfl hl.1 rfl (Nat.le_of_ble_eq_true rfl) dX4_meetingBy_53 ⟨Nat.zero_le _, Nat.zero_le _⟩ (fun H locs hP hS => ?_)
  refine lv_if_eq (tgt := 61) C.1 C.2.1 dX4_meetingBy_56 (by decide) (fun c56 => ?_) (fun c56 => ?_)
  · rw [if_pos c56] at h
    refine lv_iload_n C.1 C.2.1 dX4_meetingBy_61 rfl (lv_at hl 1 rfl) ?_
    refine lv_aload_n C.1 C.2.1 dX4_meetingBy_62 rfl (lv_at hl 0 rfl) ?_
    refine gX_12_houses C hX4_meetingBy_12_X4 hK hP mX4_meetingBy_12_2 dX4_meetingBy_63 ?_
    refine gX_11_letterDay C hX4_meetingBy_12_X2 hK hP mX4_meetingBy_12_4 dX4_meetingBy_66 ?_
    refine lv_aload_n C.1 C.2.1 dX4_meetingBy_69 rfl (lv_at hl 0 rfl) ?_
    refine gX_12_houses C hX4_meetingBy_12_X4 hK hP mX4_meetingBy_12_2 dX4_meetingBy_70 ?_
    refine gX_11_letters C hX4_meetingBy_12_X2 hK hP mX4_meetingBy_12_5 dX4_meetingBy_73 ?_
    refine lv_iconst (v := 0) C.1 C.2.1 dX4_meetingBy_76 (by decide) ?_
    obtain ⟨⟨r15, u16⟩, hc17, h⟩ := bd_some h
    try dsimp only at h
    refine ctn_i (As := [.int z1, .ref (ad 62), .int (u13.1 38), .int 0]) (rest := []) (AX_ge hJ) C hK hP hS (metX11_rowsUpTo_a62 l D cy ad st hJ _ z1 (u13.1 38) 0 hc17) ⟨va_cnB 4 C.2.2.2.2.2.1 gX4_meetingBy_X11_rowsUpTo_n72 rfl rfl rfl (hK.2.1 (RX4, 72, yX11_rowsUpTo) (by decide +kernel)) (C.2.2.2.2.2.1 _ mX4_meetingBy_12_6) (by decide +kernel) ⟨(Nat.le_of_ble_eq_true rfl), (Nat.le_of_ble_eq_true rfl)⟩, C.2.2.2.2.2.1 _ mX4_meetingBy_12_7, trivial⟩ rfl hl.1 rfl (Nat.le_of_ble_eq_true rfl) dX4_meetingBy_77 ⟨Nat.zero_le _, Nat.zero_le _⟩ (fun H locs hP hS => ?_)
    refine lv_istore (lv' := [(6, .int r15), (0, .ref (ad 12)), (1, .int z1), (2, .int z2), (3, .long z3), (5, .int z5)]) C.1 C.2.1 dX4_meetingBy_80 hl (by decide) rfl (fun ls hl => ?_)
    replace hl := lv_sub (l' := [(0, .ref (ad 12)), (1, .int z1), (2, .int z2), (3, .long z3), (5, .int z5), (6, .int r15)]) hl [1, 2, 3, 4, 5, 0] rfl
    refine lv_iload_n C.1 C.2.1 dX4_meetingBy_82 rfl (lv_at hl 1 rfl) ?_
    refine lv_iconst (v := 1) C.1 C.2.1 dX4_meetingBy_83 (by decide) ?_
    refine lv_iadd C.1 C.2.1 dX4_meetingBy_84 ?_
    refine lv_topi (fun v18 hv19 => ?_)
    replace h := lt_e hv19 h
    try dsimp only at h
    refine lv_istore (lv' := [(7, .int v18), (0, .ref (ad 12)), (1, .int z1), (2, .int z2), (3, .long z3), (5, .int z5), (6, .int r15)]) C.1 C.2.1 dX4_meetingBy_85 hl (by decide) rfl (fun ls hl => ?_)
    replace hl := lv_sub (l' := [(0, .ref (ad 12)), (1, .int z1), (2, .int z2), (3, .long z3), (5, .int z5), (6, .int r15), (7, .int v18)]) hl [1, 2, 3, 4, 5, 6, 0] rfl
    exact wLX4_meetingBy_12_87 C hK hJ  5000 _ _ _ _ _ _ _ h hP hS (lv_sub hl [0, 4, 5, 6] rfl)
  · rw [if_neg c56] at h
    refine lv_iload_n C.1 C.2.1 dX4_meetingBy_59 rfl (lv_at hl 1 rfl) ?_
    cases h
    exact rt_i C hP hS dX4_meetingBy_60
set_option maxHeartbeats 4000000 in
set_option maxRecDepth 100000 in
theorem wX4_meetingBy_12 {p : Program} {l : Launch} {e : Env} {s : State} {m : MethodId} {args : Array Value} {below : List Frame} {meth : Method} {c : Code} {D : va_G} {cy : Nat → ClassId} {ad st : Nat → Nat} (C : Cx RX4 cX4_meetingBy 8 (some .int) wsX4_meetingBy p s m args meth c) (hK : Ky D [(cy 0, .int), (cy 1, .long), (cy 2, .boolean), (cy 3, .byte), (cy 4, .object "HissHorn$Text")] st s) (hJ : JX ad st) (x1 : Int32) (x2 : Int32) (x3 : Int64) (x5 : Int32) {u : SX} {r : Int32} {u' : SX} {H : Heap} {locs : List Loc} {ls : Array Slot} (h : fX4_meetingBy_12 x1 x2 x3 x5 u = some (r, u')) (hP : va_P D vwCl (VX cy ad st u) H) (hS : va_S (Ax (AX ad) s.heap.size) s.heap H locs) (hl : lv_has ls 8 [(0, .ref (ad 12)), (1, .int x1), (2, .int x2), (3, .long x3), (5, .int x5)]) : W p l e rmX4_meetingBy_12 s m args below meth c H locs 0 0 (MQ below (Qi D (VX cy ad st) (AX ad) s.heap.size r u') args s 0 0 (Ax (AX ad) s.heap.size)) (F0 m 0 ls []) := by
  unfold fX4_meetingBy_12 at h
  refine lv_iconst (v := 0) C.1 C.2.1 dX4_meetingBy_0 (by decide) ?_
  refine lv_istore (lv' := [(6, .int 0), (0, .ref (ad 12)), (1, .int x1), (2, .int x2), (3, .long x3), (5, .int x5)]) C.1 C.2.1 dX4_meetingBy_1 hl (by decide) rfl (fun ls hl => ?_)
  replace hl := lv_sub (l' := [(0, .ref (ad 12)), (1, .int x1), (2, .int x2), (3, .long x3), (5, .int x5), (6, .int 0)]) hl [1, 2, 3, 4, 5, 0] rfl
  exact wLX4_meetingBy_12_3 C hK hJ (wGX4_meetingBy_12_33 C hK hJ ) 5000 _ _ _ _ _ _ _ _ _ h hP hS hl
theorem metX4_meetingBy_12 (l : Launch) (D : va_G) (cy : Nat → ClassId) (ad st : Nat → Nat) (hJ : JX ad st) (sz : Nat) (x1 : Int32) (x2 : Int32) (x3 : Int64) (x5 : Int32) {u : SX} {r : Int32} {u' : SX} (h : fX4_meetingBy_12 x1 x2 x3 x5 u = some (r, u')) : Met l yX4_meetingBy wsX4_meetingBy rmX4_meetingBy_12 (va_Pc [.ref (ad 12), .int x1, .int x2, .long x3, .int x5] (Px D [(cy 0, .int), (cy 1, .long), (cy 2, .boolean), (cy 3, .byte), (cy 4, .object "HissHorn$Text")] st (VX cy ad st) sz u)) (Qi D (VX cy ad st) (AX ad) sz r u') 0 0 (Ax (AX ad) sz) := by
  refine Met.ofW (cc := cX4_meetingBy) (maxL := 8) (ret := (some .int)) (by decide) rfl ?_
  intro p e s m args below meth c s₁ B hml hv
  obtain ⟨rfl, hsz, hP, hK⟩ := hv
  subst hsz
  have C : Cx RX4 cX4_meetingBy 8 (some .int) wsX4_meetingBy p s m _ meth c := ⟨B.exec, B.bytes, hml, B.returns, findClass_of_methodNamed B.named, atoms_spec (ws := wsX4_meetingBy) B.pre, B.notSynchronized⟩
  have hl := lv_entry ([.ref (ad 12), .int x1, .int x2, .long x3, .int x5]) (n := 8) (Nat.le_of_ble_eq_true rfl)
  rw [lg_entry_eq]
  exact wX4_meetingBy_12 C hK hJ x1 x2 x3 x5 h hP va_S.rf hl
